/-! public questions, three: agree, boldest, dry, judge -/
section
variable {d : Nat} {σ : gn_Mem} {Q : Option Value → gn_Mem → Prop} {D : gD} {A : gA}
theorem xw_noTwo (hd : gn_dyn (σ 0 11) = 28) (hT : gT 28 σ D) {g q : Int32} (hQ : Q (some (.int (gb (¬ ((¬ g < 0 ∧ ¬ nI (dG D) ≤ g) ∧ (¬ q < 0 ∧ ¬ nI (dG D) ≤ q) ∧ ¬ g = q))))) σ) : gn_W (d + 1) 127 0 [.ref 0, .int g, .int q] [] σ Q := by
  (repeat (first | refine gx_run 999 80 rfl ?_ | refine gx_goto rfl rfl ?_))
  rw [hd]
  refine gx_call rfl rfl rfl ?_
  refine xw_isG hT ?_
  by_cases h1 : ¬ g < 0 ∧ ¬ nI (dG D) ≤ g
  · rw [gb_t h1]
    (repeat (first | refine gx_run 999 80 rfl ?_ | refine gx_goto rfl rfl ?_))
    first | refine gx_iff rfl (by dsimp only [gn_cmp] <;> decide) ?_ | refine gx_icf rfl (by dsimp only [gn_cmp] <;> decide) ?_
    (repeat (first | refine gx_run 999 80 rfl ?_ | refine gx_goto rfl rfl ?_))
    rw [hd]
    refine gx_call rfl rfl rfl ?_
    refine xw_isG hT ?_
    by_cases h2 : ¬ q < 0 ∧ ¬ nI (dG D) ≤ q
    · rw [gb_t h2]
      (repeat (first | refine gx_run 999 80 rfl ?_ | refine gx_goto rfl rfl ?_))
      first | refine gx_iff rfl (by dsimp only [gn_cmp] <;> decide) ?_ | refine gx_icf rfl (by dsimp only [gn_cmp] <;> decide) ?_
      (repeat (first | refine gx_run 999 80 rfl ?_ | refine gx_goto rfl rfl ?_))
      first | refine gw_if rfl (fun h3 => ?_) (fun h3 => ?_) | refine gw_icmp rfl (fun h3 => ?_) (fun h3 => ?_)
      · (repeat (first | refine gx_run 999 80 rfl ?_ | refine gx_goto rfl rfl ?_))
        refine gw_zret rfl (Or.inl rfl) ?_
        have e : gb (¬ ((¬ g < 0 ∧ ¬ nI (dG D) ≤ g) ∧ (¬ q < 0 ∧ ¬ nI (dG D) ≤ q) ∧ ¬ g = q)) = 0 := gb_f (fun z => z ⟨h1, h2, h3⟩)
        rw [e] at hQ; exact hQ
      · (repeat (first | refine gx_run 999 80 rfl ?_ | refine gx_goto rfl rfl ?_))
        refine gw_zret rfl (Or.inr rfl) ?_
        have e : gb (¬ ((¬ g < 0 ∧ ¬ nI (dG D) ≤ g) ∧ (¬ q < 0 ∧ ¬ nI (dG D) ≤ q) ∧ ¬ g = q)) = 1 := gb_t (fun z => h3 z.2.2)
        rw [e] at hQ; exact hQ
    · rw [gb_f h2]
      (repeat (first | refine gx_run 999 80 rfl ?_ | refine gx_goto rfl rfl ?_))
      first | refine gx_ift rfl (by dsimp only [gn_cmp] <;> decide) ?_ | refine gx_ict rfl (by dsimp only [gn_cmp] <;> decide) ?_
      (repeat (first | refine gx_run 999 80 rfl ?_ | refine gx_goto rfl rfl ?_))
      refine gw_zret rfl (Or.inr rfl) ?_
      have e : gb (¬ ((¬ g < 0 ∧ ¬ nI (dG D) ≤ g) ∧ (¬ q < 0 ∧ ¬ nI (dG D) ≤ q) ∧ ¬ g = q)) = 1 := gb_t (fun z => h2 z.2.1)
      rw [e] at hQ; exact hQ
  · rw [gb_f h1]
    (repeat (first | refine gx_run 999 80 rfl ?_ | refine gx_goto rfl rfl ?_))
    first | refine gx_ift rfl (by dsimp only [gn_cmp] <;> decide) ?_ | refine gx_ict rfl (by dsimp only [gn_cmp] <;> decide) ?_
    (repeat (first | refine gx_run 999 80 rfl ?_ | refine gx_goto rfl rfl ?_))
    refine gw_zret rfl (Or.inr rfl) ?_
    have e : gb (¬ ((¬ g < 0 ∧ ¬ nI (dG D) ≤ g) ∧ (¬ q < 0 ∧ ¬ nI (dG D) ≤ q) ∧ ¬ g = q)) = 1 := gb_t (fun z => h1 z.1)
    rw [e] at hQ; exact hQ
/-- the reference's inner loop of BOLDEST -/
theorem bN_gf {g t : Nat} (y : Int32 × Int32) (hy : -1 ≤ y.2) (n : Nat) : gf (fun k (y : Int32 × Int32) => if dT D g k = t ∧ y.2 < nI (dB D g k) then (nI g, nI (dB D g k)) else y) n y = (if y.2 < gf (fun k y => if dT D g k = t then (if y < nI (dB D g k) then nI (dB D g k) else y) else y) n (-1) then (nI g, gf (fun k y => if dT D g k = t then (if y < nI (dB D g k) then nI (dB D g k) else y) else y) n (-1)) else y) := by
  induction n with
  | zero =>
    show y = if y.2 < -1 then (nI g, -1) else y
    rw [if_neg (Int32.not_lt.mpr hy)]
  | succ n ih =>
    show (if dT D g n = t ∧ (gf _ n y).2 < nI (dB D g n) then (nI g, nI (dB D g n)) else gf _ n y) = _
    have e : gf (fun k y => if dT D g k = t then (if y < nI (dB D g k) then nI (dB D g k) else y) else y) (n + 1) (-1) = (if dT D g n = t then (if gf (fun k y => if dT D g k = t then (if y < nI (dB D g k) then nI (dB D g k) else y) else y) n (-1) < nI (dB D g n) then nI (dB D g n) else gf (fun k y => if dT D g k = t then (if y < nI (dB D g k) then nI (dB D g k) else y) else y) n (-1)) else gf (fun k y => if dT D g k = t then (if y < nI (dB D g k) then nI (dB D g k) else y) else y) n (-1)) := rfl
    rw [e, ih]
    generalize gf (fun k y => if dT D g k = t then (if y < nI (dB D g k) then nI (dB D g k) else y) else y) n (-1) = m
    generalize nI (dB D g n) = v
    by_cases ht : dT D g n = t
    · rw [if_pos ht]
      by_cases h1 : y.2 < m
      · rw [if_pos h1]
        by_cases h2 : m < v
        · rw [if_pos ⟨ht, h2⟩, if_pos h2, if_pos (Int32.lt_trans h1 h2)]
        · rw [if_neg (fun z => h2 z.2), if_neg h2, if_pos h1]
      · rw [if_neg h1]
        by_cases h2 : m < v
        · rw [if_pos h2]
          by_cases h3 : y.2 < v
          · rw [if_pos ⟨ht, h3⟩, if_pos h3]
          · rw [if_neg (fun z => h3 z.2), if_neg h3]
        · rw [if_neg h2, if_neg h1]
          have h3 : ¬ y.2 < v := fun z => h2 (Int32.lt_of_le_of_lt (Int32.not_lt.mp h1) z)
          rw [if_neg (fun z => h3 z.2)]
    · rw [if_neg ht, if_neg (fun z => ht z.1)]
theorem mw_boldestL (hM : gM σ D) {t : Nat} (ht : t < 8) (hQ : Q (some (.int (sB D t).1)) σ) : gn_W (d + 2) 193 20 [.ref 44, .int (nI t), .int (-1), .int (-1), .int 0] [] σ Q := by
  have hle := hM.1.1
  refine gw_for (dG D) (fun g y => if y.2 < bN D g t then (nI g, bN D g t) else y) (fun _ y => -1 ≤ y.2) (fun i y => [.ref 44, .int (nI t), .int y.1, .int y.2, .int (nI i)]) (fun _ => σ) ((-1 : Int32), (-1 : Int32)) (by decide) ?_ ?_ ?_
  · intro i y hi hy
    split
    · rename_i h
      exact Int32.le_of_lt (Int32.lt_of_le_of_lt hy h)
    · exact hy
  · intro i y hi hy hn
    have hc := hM.1.2.2.2.2.1 i hi
    (repeat (first | refine gx_run 999 80 rfl ?_ | refine gx_goto rfl rfl ?_))
    rw [hM.2.2.2.1]
    first | refine gx_iff rfl (nI_ge hi (by omega)) ?_ | refine gx_icf rfl (nI_ge hi (by omega)) ?_
    (refine gw_run 32 80 rfl ?_)
    have hn2 : gn_W (d + 2) 193 20 ((fun i (y : Int32 × Int32) => [Value.ref 44, .int (nI t), .int y.1, .int y.2, .int (nI i)]) (i + 1) (gf (fun k (y : Int32 × Int32) => if dT D i k = t ∧ y.2 < nI (dB D i k) then (nI i, nI (dB D i k)) else y) (dC D i) y)) [] σ Q := by
      rw [bN_gf y hy]
      exact hn
    refine gw_for (dC D i) (fun k (y : Int32 × Int32) => if dT D i k = t ∧ y.2 < nI (dB D i k) then (nI i, nI (dB D i k)) else y) (fun _ _ => True) (fun k y => [.ref 44, .int (nI t), .int y.1, .int y.2, .int (nI i), .int (nI k)]) (fun _ => σ) y trivial (fun _ _ _ _ => trivial) ?_ ?_
    · intro k u hk _ hn3
      have hv := hM.1.2.2.2.2.2.1 i k hi hk
      (repeat (first | refine gx_run 999 80 rfl ?_ | refine gx_goto rfl rfl ?_))
      refine gx_ld i rfl (by omega) (hM.2.2.2.2.2.1 i hi).2 rfl rfl rfl ?_
      first | refine gx_iff rfl (nI_ge hk (by omega)) ?_ | refine gx_icf rfl (nI_ge hk (by omega)) ?_
      (repeat (first | refine gx_run 999 80 rfl ?_ | refine gx_goto rfl rfl ?_))
      refine gx_call rfl rfl rfl ?_
      refine mw_topicOf hM hi hk ?_
      (repeat (first | refine gx_run 999 80 rfl ?_ | refine gx_goto rfl rfl ?_))
      by_cases h1 : dT D i k = t
      · first | refine gx_iff rfl (fun q => q (by rw [h1])) ?_ | refine gx_icf rfl (fun q => q (by rw [h1])) ?_
        (repeat (first | refine gx_run 999 80 rfl ?_ | refine gx_goto rfl rfl ?_))
        refine gx_call rfl rfl rfl ?_
        refine mw_boldOf hM hi hk ?_
        (repeat (first | refine gx_run 999 80 rfl ?_ | refine gx_goto rfl rfl ?_))
        by_cases h2 : u.2 < nI (dB D i k)
        · rw [if_pos ⟨h1, h2⟩] at hn3
          first | refine gx_iff rfl (fun q => absurd h2 (Int32.not_lt.mpr q)) ?_ | refine gx_icf rfl (fun q => absurd h2 (Int32.not_lt.mpr q)) ?_
          (repeat (first | refine gx_run 999 80 rfl ?_ | refine gx_goto rfl rfl ?_))
          refine gx_call rfl rfl rfl ?_
          refine mw_boldOf hM hi hk ?_
          (repeat (first | refine gx_run 999 80 rfl ?_ | refine gx_goto rfl rfl ?_))
          refine gw_goto rfl ?_
          rw [nI_1]
          exact hn3
        · rw [if_neg (fun z => h2 z.2)] at hn3
          first | refine gx_ift rfl (Int32.not_lt.mp h2) ?_ | refine gx_ict rfl (Int32.not_lt.mp h2) ?_
          (repeat (first | refine gx_run 999 80 rfl ?_ | refine gx_goto rfl rfl ?_))
          refine gw_goto rfl ?_
          rw [nI_1]
          exact hn3
      · rw [if_neg (fun z => h1 z.1)] at hn3
        first | refine gx_ift rfl (fun q => h1 ((nI_eq (by omega) (by omega)).mp q)) ?_ | refine gx_ict rfl (fun q => h1 ((nI_eq (by omega) (by omega)).mp q)) ?_
        (repeat (first | refine gx_run 999 80 rfl ?_ | refine gx_goto rfl rfl ?_))
        refine gw_goto rfl ?_
        rw [nI_1]
        exact hn3
    · intro _
      (repeat (first | refine gx_run 999 80 rfl ?_ | refine gx_goto rfl rfl ?_))
      refine gx_ld i rfl (by omega) (hM.2.2.2.2.2.1 i hi).2 rfl rfl rfl ?_
      first | refine gx_ift rfl (nI_le (Nat.le_refl _) (by omega)) ?_ | refine gx_ict rfl (nI_le (Nat.le_refl _) (by omega)) ?_
      (repeat (first | refine gx_run 999 80 rfl ?_ | refine gx_goto rfl rfl ?_))
      refine gw_goto rfl ?_
      rw [nI_1]
      exact gx_drop [_, _, _, _, _] [_] (by rfl) hn2
  · intro _
    (repeat (first | refine gx_run 999 80 rfl ?_ | refine gx_goto rfl rfl ?_))
    rw [hM.2.2.2.1]
    first | refine gx_ift rfl (nI_le (Nat.le_refl _) (by omega)) ?_ | refine gx_ict rfl (nI_le (Nat.le_refl _) (by omega)) ?_
    (repeat (first | refine gx_run 999 80 rfl ?_ | refine gx_goto rfl rfl ?_))
    refine gx_iret rfl rfl ?_
    exact hQ
end
theorem p_agree {σ : gn_Mem} (hI : Inv σ) (g q : Int32) : gPair 112 192 [.int g, .int q] σ := by
  obtain ⟨D, A, c, nx, B, z, I, e, T, Z, b, G, H, n, L, hT, hN, hS, hP, hII, hE, hB, hX, hF⟩ := id hI
  have hd := hT.1
  have hle := hT.2.2.1.1.1
  by_cases hg : ¬ g < 0 ∧ ¬ nI (dG D) ≤ g
  · by_cases hq : ¬ q < 0 ∧ ¬ nI (dG D) ≤ q
    · by_cases hn : g = q
      · refine gPair.q hI (-1000000001) (fun Q hQ => ?_) (fun Q hQ => ?_)
        · (repeat (first | refine gx_run 999 80 rfl ?_ | refine gx_goto rfl rfl ?_))
          refine gx_call rfl rfl rfl ?_
          refine xw_noTwo hd hT.2.2.1 ?_
          rw [show gb (¬ ((¬ g < 0 ∧ ¬ nI (dG D) ≤ g) ∧ (¬ q < 0 ∧ ¬ nI (dG D) ≤ q) ∧ ¬ g = q)) = 1 from gb_t (fun z => z.2.2 hn)]
          (repeat (first | refine gx_run 999 80 rfl ?_ | refine gx_goto rfl rfl ?_))
          first | refine gx_iff rfl (by dsimp only [gn_cmp] <;> decide) ?_ | refine gx_icf rfl (by dsimp only [gn_cmp] <;> decide) ?_
          (repeat (first | refine gx_run 999 80 rfl ?_ | refine gx_goto rfl rfl ?_))
          refine gx_iret rfl rfl ?_
          exact hQ
        · (repeat (first | refine gx_run 999 80 rfl ?_ | refine gx_goto rfl rfl ?_))
          refine gx_call rfl rfl rfl ?_
          refine mw_isG hT.2.2.2 ?_
          rw [gb_t hg]
          (repeat (first | refine gx_run 999 80 rfl ?_ | refine gx_goto rfl rfl ?_))
          first | refine gx_iff rfl (by dsimp only [gn_cmp] <;> decide) ?_ | refine gx_icf rfl (by dsimp only [gn_cmp] <;> decide) ?_
          (repeat (first | refine gx_run 999 80 rfl ?_ | refine gx_goto rfl rfl ?_))
          refine gx_call rfl rfl rfl ?_
          refine mw_isG hT.2.2.2 ?_
          rw [gb_t hq]
          (repeat (first | refine gx_run 999 80 rfl ?_ | refine gx_goto rfl rfl ?_))
          first | refine gx_iff rfl (by dsimp only [gn_cmp] <;> decide) ?_ | refine gx_icf rfl (by dsimp only [gn_cmp] <;> decide) ?_
          (repeat (first | refine gx_run 999 80 rfl ?_ | refine gx_goto rfl rfl ?_))
          first | refine gx_iff rfl (fun z => z hn) ?_ | refine gx_icf rfl (fun z => z hn) ?_
          (repeat (first | refine gx_run 999 80 rfl ?_ | refine gx_goto rfl rfl ?_))
          refine gx_iret rfl rfl ?_
          exact hQ
      · obtain ⟨j, hj, rfl⟩ := in_of (by omega) hg
        obtain ⟨i, hi, rfl⟩ := in_of (by omega) hq
        refine gPair.q hI (nI (dS D j) &&& nI (dS D i)) (fun Q hQ => ?_) (fun Q hQ => ?_)
        · (repeat (first | refine gx_run 999 80 rfl ?_ | refine gx_goto rfl rfl ?_))
          refine gx_call rfl rfl rfl ?_
          refine xw_noTwo hd hT.2.2.1 ?_
          rw [show gb (¬ ((¬ nI j < 0 ∧ ¬ nI (dG D) ≤ nI j) ∧ (¬ nI i < 0 ∧ ¬ nI (dG D) ≤ nI i) ∧ ¬ nI j = nI i)) = 0 from gb_f (fun z => z ⟨hg, hq, hn⟩)]
          (repeat (first | refine gx_run 999 80 rfl ?_ | refine gx_goto rfl rfl ?_))
          first | refine gx_ift rfl (by dsimp only [gn_cmp] <;> decide) ?_ | refine gx_ict rfl (by dsimp only [gn_cmp] <;> decide) ?_
          (repeat (first | refine gx_run 999 80 rfl ?_ | refine gx_goto rfl rfl ?_))
          rw [hd]
          refine gx_call rfl rfl rfl ?_
          refine xw_topicsOf hT.2.2.1 hj ?_
          (repeat (first | refine gx_run 999 80 rfl ?_ | refine gx_goto rfl rfl ?_))
          rw [hd]
          refine gx_call rfl rfl rfl ?_
          refine xw_topicsOf hT.2.2.1 hi ?_
          (repeat (first | refine gx_run 999 80 rfl ?_ | refine gx_goto rfl rfl ?_))
          refine gx_iret rfl rfl ?_
          exact hQ
        · (repeat (first | refine gx_run 999 80 rfl ?_ | refine gx_goto rfl rfl ?_))
          refine gx_call rfl rfl rfl ?_
          refine mw_isG hT.2.2.2 ?_
          rw [gb_t hg]
          (repeat (first | refine gx_run 999 80 rfl ?_ | refine gx_goto rfl rfl ?_))
          first | refine gx_iff rfl (by dsimp only [gn_cmp] <;> decide) ?_ | refine gx_icf rfl (by dsimp only [gn_cmp] <;> decide) ?_
          (repeat (first | refine gx_run 999 80 rfl ?_ | refine gx_goto rfl rfl ?_))
          refine gx_call rfl rfl rfl ?_
          refine mw_isG hT.2.2.2 ?_
          rw [gb_t hq]
          (repeat (first | refine gx_run 999 80 rfl ?_ | refine gx_goto rfl rfl ?_))
          first | refine gx_iff rfl (by dsimp only [gn_cmp] <;> decide) ?_ | refine gx_icf rfl (by dsimp only [gn_cmp] <;> decide) ?_
          (repeat (first | refine gx_run 999 80 rfl ?_ | refine gx_goto rfl rfl ?_))
          first | refine gx_ift rfl (hn) ?_ | refine gx_ict rfl (hn) ?_
          (repeat (first | refine gx_run 999 80 rfl ?_ | refine gx_goto rfl rfl ?_))
          refine gx_call rfl rfl rfl ?_
          refine mw_topicsOf hT.2.2.2 hj ?_
          (repeat (first | refine gx_run 999 80 rfl ?_ | refine gx_goto rfl rfl ?_))
          refine gx_call rfl rfl rfl ?_
          refine mw_topicsOf hT.2.2.2 hi ?_
          (repeat (first | refine gx_run 999 80 rfl ?_ | refine gx_goto rfl rfl ?_))
          refine gx_iret rfl rfl ?_
          exact hQ
    · refine gPair.q hI (-1000000001) (fun Q hQ => ?_) (fun Q hQ => ?_)
      · (repeat (first | refine gx_run 999 80 rfl ?_ | refine gx_goto rfl rfl ?_))
        refine gx_call rfl rfl rfl ?_
        refine xw_noTwo hd hT.2.2.1 ?_
        rw [show gb (¬ ((¬ g < 0 ∧ ¬ nI (dG D) ≤ g) ∧ (¬ q < 0 ∧ ¬ nI (dG D) ≤ q) ∧ ¬ g = q)) = 1 from gb_t (fun z => hq z.2.1)]
        (repeat (first | refine gx_run 999 80 rfl ?_ | refine gx_goto rfl rfl ?_))
        first | refine gx_iff rfl (by dsimp only [gn_cmp] <;> decide) ?_ | refine gx_icf rfl (by dsimp only [gn_cmp] <;> decide) ?_
        (repeat (first | refine gx_run 999 80 rfl ?_ | refine gx_goto rfl rfl ?_))
        refine gx_iret rfl rfl ?_
        exact hQ
      · (repeat (first | refine gx_run 999 80 rfl ?_ | refine gx_goto rfl rfl ?_))
        refine gx_call rfl rfl rfl ?_
        refine mw_isG hT.2.2.2 ?_
        rw [gb_t hg]
        (repeat (first | refine gx_run 999 80 rfl ?_ | refine gx_goto rfl rfl ?_))
        first | refine gx_iff rfl (by dsimp only [gn_cmp] <;> decide) ?_ | refine gx_icf rfl (by dsimp only [gn_cmp] <;> decide) ?_
        (repeat (first | refine gx_run 999 80 rfl ?_ | refine gx_goto rfl rfl ?_))
        refine gx_call rfl rfl rfl ?_
        refine mw_isG hT.2.2.2 ?_
        rw [gb_f hq]
        (repeat (first | refine gx_run 999 80 rfl ?_ | refine gx_goto rfl rfl ?_))
        first | refine gx_ift rfl (by dsimp only [gn_cmp] <;> decide) ?_ | refine gx_ict rfl (by dsimp only [gn_cmp] <;> decide) ?_
        (repeat (first | refine gx_run 999 80 rfl ?_ | refine gx_goto rfl rfl ?_))
        refine gx_iret rfl rfl ?_
        exact hQ
  · refine gPair.q hI (-1000000001) (fun Q hQ => ?_) (fun Q hQ => ?_)
    · (repeat (first | refine gx_run 999 80 rfl ?_ | refine gx_goto rfl rfl ?_))
      refine gx_call rfl rfl rfl ?_
      refine xw_noTwo hd hT.2.2.1 ?_
      rw [show gb (¬ ((¬ g < 0 ∧ ¬ nI (dG D) ≤ g) ∧ (¬ q < 0 ∧ ¬ nI (dG D) ≤ q) ∧ ¬ g = q)) = 1 from gb_t (fun z => hg z.1)]
      (repeat (first | refine gx_run 999 80 rfl ?_ | refine gx_goto rfl rfl ?_))
      first | refine gx_iff rfl (by dsimp only [gn_cmp] <;> decide) ?_ | refine gx_icf rfl (by dsimp only [gn_cmp] <;> decide) ?_
      (repeat (first | refine gx_run 999 80 rfl ?_ | refine gx_goto rfl rfl ?_))
      refine gx_iret rfl rfl ?_
      exact hQ
    · (repeat (first | refine gx_run 999 80 rfl ?_ | refine gx_goto rfl rfl ?_))
      refine gx_call rfl rfl rfl ?_
      refine mw_isG hT.2.2.2 ?_
      rw [gb_f hg]
      (repeat (first | refine gx_run 999 80 rfl ?_ | refine gx_goto rfl rfl ?_))
      first | refine gx_ift rfl (by dsimp only [gn_cmp] <;> decide) ?_ | refine gx_ict rfl (by dsimp only [gn_cmp] <;> decide) ?_
      (repeat (first | refine gx_run 999 80 rfl ?_ | refine gx_goto rfl rfl ?_))
      refine gx_iret rfl rfl ?_
      exact hQ
theorem p_boldest {σ : gn_Mem} (hI : Inv σ) (t : Int32) : gPair 113 193 [.int t] σ := by
  obtain ⟨D, A, c, nx, B, z, I, e, T, Z, b, G, H, n, L, hT, hN, hS, hP, hII, hE, hB, hX, hF⟩ := id hI
  have hd := hT.1
  by_cases ht : ¬ t < 0 ∧ ¬ nI 8 ≤ t
  · obtain ⟨j, hj, rfl⟩ := in_of (by omega) ht
    refine gPair.q hI (sB D j).1 (fun Q hQ => ?_) (fun Q hQ => ?_)
    · (repeat (first | refine gx_run 999 80 rfl ?_ | refine gx_goto rfl rfl ?_))
      refine gw_calls rfl rfl rfl ?_
      refine xw_noTopic ?_
      rw [show gb (¬ (¬ nI j < 0 ∧ ¬ nI 8 ≤ nI j)) = 0 from gb_f (fun q => q ht)]
      (repeat (first | refine gx_run 999 80 rfl ?_ | refine gx_goto rfl rfl ?_))
      first | refine gx_ift rfl (by dsimp only [gn_cmp] <;> decide) ?_ | refine gx_ict rfl (by dsimp only [gn_cmp] <;> decide) ?_
      (repeat (first | refine gx_run 999 80 rfl ?_ | refine gx_goto rfl rfl ?_))
      rw [hd]
      refine gx_call rfl rfl rfl ?_
      refine xw_boldest hT.2.2.1 hj ?_
      (repeat (first | refine gx_run 999 80 rfl ?_ | refine gx_goto rfl rfl ?_))
      refine gx_iret rfl rfl ?_
      exact hQ
    · (repeat (first | refine gx_run 999 80 rfl ?_ | refine gx_goto rfl rfl ?_))
      refine gw_calls rfl rfl rfl ?_
      refine mw_in0 8 (by omega) rfl ?_
      rw [gb_t ht]
      (repeat (first | refine gx_run 999 80 rfl ?_ | refine gx_goto rfl rfl ?_))
      first | refine gx_ift rfl (by dsimp only [gn_cmp] <;> decide) ?_ | refine gx_ict rfl (by dsimp only [gn_cmp] <;> decide) ?_
      (refine gw_run 20 80 rfl ?_)
      exact mw_boldestL (d := 18) hT.2.2.2 hj hQ
  · refine gPair.q hI (-1000000002) (fun Q hQ => ?_) (fun Q hQ => ?_)
    · (repeat (first | refine gx_run 999 80 rfl ?_ | refine gx_goto rfl rfl ?_))
      refine gw_calls rfl rfl rfl ?_
      refine xw_noTopic ?_
      rw [show gb (¬ (¬ t < 0 ∧ ¬ nI 8 ≤ t)) = 1 from gb_t ht]
      (repeat (first | refine gx_run 999 80 rfl ?_ | refine gx_goto rfl rfl ?_))
      first | refine gx_iff rfl (by dsimp only [gn_cmp] <;> decide) ?_ | refine gx_icf rfl (by dsimp only [gn_cmp] <;> decide) ?_
      (repeat (first | refine gx_run 999 80 rfl ?_ | refine gx_goto rfl rfl ?_))
      refine gx_iret rfl rfl ?_
      exact hQ
    · (repeat (first | refine gx_run 999 80 rfl ?_ | refine gx_goto rfl rfl ?_))
      refine gw_calls rfl rfl rfl ?_
      refine mw_in0 8 (by omega) rfl ?_
      rw [gb_f ht]
      (repeat (first | refine gx_run 999 80 rfl ?_ | refine gx_goto rfl rfl ?_))
      first | refine gx_iff rfl (by dsimp only [gn_cmp] <;> decide) ?_ | refine gx_icf rfl (by dsimp only [gn_cmp] <;> decide) ?_
      (repeat (first | refine gx_run 999 80 rfl ?_ | refine gx_goto rfl rfl ?_))
      refine gx_iret rfl rfl ?_
      exact hQ
/-- DRY WEEK -/
def sD (q : Int32) (n : Nat) : Int64 := gf (fun _ y => y * q.toInt64 / Int64.ofNat 100) n (Int64.ofNat 1000000000)
theorem p_dry {σ : gn_Mem} (hI : Inv σ) (n q : Int32) : gPair 114 194 [.int n, .int q] σ := by
  by_cases h1 : ¬ n < 0 ∧ ¬ 60 < n
  · obtain ⟨j, hj, rfl⟩ := nI_of h1.1
    have hj60 : j ≤ 60 := by
      rcases Nat.lt_or_ge 60 j with z | z
      · exact absurd (nI_lt (a := 60) z hj) h1.2
      · exact z
    by_cases h2 : ¬ q < 0 ∧ ¬ 100 < q
    · have kx : ∀ (mi r : Nat), mi = 114 ∨ mi = 194 → ∀ Q : Option Value → gn_Mem → Prop, Q (some (.int (sD q j).toInt32)) σ → gn_W 20 mi 23 [.ref r, .int (nI j), .int q] [] σ Q := by
        intro mi r hmi Q hQ
        rcases hmi with rfl | rfl <;>
        ((refine gw_run 30 80 rfl ?_)
         refine gw_for j (fun _ y => y * q.toInt64 / Int64.ofNat 100) (fun _ _ => True) (fun i y => [.ref r, .int (nI j), .int q, .long y, .null, .int (nI i)]) (fun _ => σ) (Int64.ofNat 1000000000) trivial (fun _ _ _ _ => trivial) ?_ ?_
         · intro i y hi _ hn
           (repeat (first | refine gx_run 999 80 rfl ?_ | refine gx_goto rfl rfl ?_))
           first | refine gx_iff rfl (nI_ge hi (by omega)) ?_ | refine gx_icf rfl (nI_ge hi (by omega)) ?_
           (repeat (first | refine gx_run 999 80 rfl ?_ | refine gx_goto rfl rfl ?_))
           refine gw_ldiv rfl (by decide) ?_
           (repeat (first | refine gx_run 999 80 rfl ?_ | refine gx_goto rfl rfl ?_))
           refine gw_goto rfl ?_
           rw [nI_1]
           exact hn
         · intro _
           (repeat (first | refine gx_run 999 80 rfl ?_ | refine gx_goto rfl rfl ?_))
           first | refine gx_ift rfl (nI_le (Nat.le_refl _) (by omega)) ?_ | refine gx_ict rfl (nI_le (Nat.le_refl _) (by omega)) ?_
           (repeat (first | refine gx_run 999 80 rfl ?_ | refine gx_goto rfl rfl ?_))
           refine gx_iret rfl rfl ?_
           exact hQ)
      refine gPair.q hI (sD q j).toInt32 (fun Q hQ => ?_) (fun Q hQ => ?_)
      · (repeat (first | refine gx_run 999 80 rfl ?_ | refine gx_goto rfl rfl ?_))
        first | refine gx_iff rfl (h1.1) ?_ | refine gx_icf rfl (h1.1) ?_
        (repeat (first | refine gx_run 999 80 rfl ?_ | refine gx_goto rfl rfl ?_))
        first | refine gx_iff rfl (h1.2) ?_ | refine gx_icf rfl (h1.2) ?_
        (repeat (first | refine gx_run 999 80 rfl ?_ | refine gx_goto rfl rfl ?_))
        first | refine gx_iff rfl (h2.1) ?_ | refine gx_icf rfl (h2.1) ?_
        (repeat (first | refine gx_run 999 80 rfl ?_ | refine gx_goto rfl rfl ?_))
        first | refine gx_ift rfl (Int32.not_lt.mp h2.2) ?_ | refine gx_ict rfl (Int32.not_lt.mp h2.2) ?_
        exact kx 114 0 (Or.inl rfl) Q hQ
      · (repeat (first | refine gx_run 999 80 rfl ?_ | refine gx_goto rfl rfl ?_))
        refine gw_calls rfl rfl rfl ?_
        refine mw_in ?_
        rw [gb_t h1]
        (repeat (first | refine gx_run 999 80 rfl ?_ | refine gx_goto rfl rfl ?_))
        first | refine gx_iff rfl (by dsimp only [gn_cmp] <;> decide) ?_ | refine gx_icf rfl (by dsimp only [gn_cmp] <;> decide) ?_
        (repeat (first | refine gx_run 999 80 rfl ?_ | refine gx_goto rfl rfl ?_))
        refine gw_calls rfl rfl rfl ?_
        refine mw_in ?_
        rw [gb_t h2]
        (repeat (first | refine gx_run 999 80 rfl ?_ | refine gx_goto rfl rfl ?_))
        first | refine gx_ift rfl (by dsimp only [gn_cmp] <;> decide) ?_ | refine gx_ict rfl (by dsimp only [gn_cmp] <;> decide) ?_
        exact kx 194 44 (Or.inr rfl) Q hQ
    · refine gPair.q hI (-1000000002) (fun Q hQ => ?_) (fun Q hQ => ?_)
      · (repeat (first | refine gx_run 999 80 rfl ?_ | refine gx_goto rfl rfl ?_))
        first | refine gx_iff rfl (h1.1) ?_ | refine gx_icf rfl (h1.1) ?_
        (repeat (first | refine gx_run 999 80 rfl ?_ | refine gx_goto rfl rfl ?_))
        first | refine gx_iff rfl (h1.2) ?_ | refine gx_icf rfl (h1.2) ?_
        (repeat (first | refine gx_run 999 80 rfl ?_ | refine gx_goto rfl rfl ?_))
        first | refine gw_if rfl (fun h3 => ?_) (fun h3 => ?_) | refine gw_icmp rfl (fun h3 => ?_) (fun h3 => ?_)
        · (repeat (first | refine gx_run 999 80 rfl ?_ | refine gx_goto rfl rfl ?_))
          refine gx_iret rfl rfl ?_
          exact hQ
        · (repeat (first | refine gx_run 999 80 rfl ?_ | refine gx_goto rfl rfl ?_))
          first | refine gx_iff rfl (fun z => h2 ⟨h3, Int32.not_lt.mpr z⟩) ?_ | refine gx_icf rfl (fun z => h2 ⟨h3, Int32.not_lt.mpr z⟩) ?_
          (repeat (first | refine gx_run 999 80 rfl ?_ | refine gx_goto rfl rfl ?_))
          refine gx_iret rfl rfl ?_
          exact hQ
      · (repeat (first | refine gx_run 999 80 rfl ?_ | refine gx_goto rfl rfl ?_))
        refine gw_calls rfl rfl rfl ?_
        refine mw_in ?_
        rw [gb_t h1]
        (repeat (first | refine gx_run 999 80 rfl ?_ | refine gx_goto rfl rfl ?_))
        first | refine gx_iff rfl (by dsimp only [gn_cmp] <;> decide) ?_ | refine gx_icf rfl (by dsimp only [gn_cmp] <;> decide) ?_
        (repeat (first | refine gx_run 999 80 rfl ?_ | refine gx_goto rfl rfl ?_))
        refine gw_calls rfl rfl rfl ?_
        refine mw_in ?_
        rw [gb_f h2]
        (repeat (first | refine gx_run 999 80 rfl ?_ | refine gx_goto rfl rfl ?_))
        first | refine gx_iff rfl (by dsimp only [gn_cmp] <;> decide) ?_ | refine gx_icf rfl (by dsimp only [gn_cmp] <;> decide) ?_
        (repeat (first | refine gx_run 999 80 rfl ?_ | refine gx_goto rfl rfl ?_))
        refine gx_iret rfl rfl ?_
        exact hQ
  · refine gPair.q hI (-1000000002) (fun Q hQ => ?_) (fun Q hQ => ?_)
    · (repeat (first | refine gx_run 999 80 rfl ?_ | refine gx_goto rfl rfl ?_))
      first | refine gw_if rfl (fun h3 => ?_) (fun h3 => ?_) | refine gw_icmp rfl (fun h3 => ?_) (fun h3 => ?_)
      · (repeat (first | refine gx_run 999 80 rfl ?_ | refine gx_goto rfl rfl ?_))
        refine gx_iret rfl rfl ?_
        exact hQ
      · (repeat (first | refine gx_run 999 80 rfl ?_ | refine gx_goto rfl rfl ?_))
        first | refine gx_ift rfl (Classical.not_not.mp fun z => h1 ⟨h3, z⟩) ?_ | refine gx_ict rfl (Classical.not_not.mp fun z => h1 ⟨h3, z⟩) ?_
        (repeat (first | refine gx_run 999 80 rfl ?_ | refine gx_goto rfl rfl ?_))
        refine gx_iret rfl rfl ?_
        exact hQ
    · (repeat (first | refine gx_run 999 80 rfl ?_ | refine gx_goto rfl rfl ?_))
      refine gw_calls rfl rfl rfl ?_
      refine mw_in ?_
      rw [gb_f h1]
      (repeat (first | refine gx_run 999 80 rfl ?_ | refine gx_goto rfl rfl ?_))
      first | refine gx_ift rfl (by dsimp only [gn_cmp] <;> decide) ?_ | refine gx_ict rfl (by dsimp only [gn_cmp] <;> decide) ?_
      (repeat (first | refine gx_run 999 80 rfl ?_ | refine gx_goto rfl rfl ?_))
      refine gx_iret rfl rfl ?_
      exact hQ
