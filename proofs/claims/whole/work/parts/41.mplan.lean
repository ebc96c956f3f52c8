/-! the reference's plan -/
section
variable {d : Nat} {σ : gn_Mem} {Q : Option Value → gn_Mem → Prop} {D : gD} {A : gA}
def plS (D : gD) (A : gA) : gS := vis D A (dG D) 0 (fun h => A (20 + h)) 0 (0, 0)
theorem xw_seekP (hT : gT 28 σ D) (hX : xR (σ 4) A) (hA : wA2 D A) (hQ : ∀ σ' : gn_Mem, (∀ o, ¬ (13 ≤ o ∧ o ≤ 18) → σ' o = σ o) → σ' 13 5 = nI (dG D) → σ' 13 7 = e1 (plS D A).1 → (∀ j, j < dG D → σ' 18 j = dgt (plS D A).2 (dG D - 1 - j)) → Q none σ') : gn_W (d + 9) 45 0 [.ref 13, .ref 28, .ref 3] [] σ Q := by
  have hle := hT.1.1
  have hhe := hT.1.2.1
  (refine gw_run 32 80 rfl ?_)
  rw [show σ 28 2 = nI (dG D) from hT.2.2.2.1, mn_6 hle, show gn_up σ 13 5 (nI (dG D)) 28 3 = nI (dH D) by rw [gu_k (Or.inl (by decide))]; exact hT.2.2.2.2.1, mn_4 hhe]
  generalize hσ : gn_up (gn_up (gn_up σ 13 5 (nI (dG D))) 13 6 (nI (dH D))) 13 7 (-1) = σ1
  have f1 : ∀ o, o ≠ 13 → σ1 o = σ o := fun o ho => by rw [← hσ, gu_o ho, gu_o ho, gu_o ho]
  have a5 : σ1 13 5 = nI (dG D) := by rw [← hσ, gu_k (by omega), gu_k (by omega), gu_s]
  have a6 : σ1 13 6 = nI (dH D) := by rw [← hσ, gu_k (by omega), gu_s]
  have a7 : σ1 13 7 = -1 := by rw [← hσ, gu_s]
  have hX1 : xR (σ1 4) A := by rw [f1 4 (by omega)]; exact hX
  refine gw_forP (dH D) (fun i (σ' : gn_Mem) => (∀ o, o ≠ 16 → σ' o = σ1 o) ∧ ∀ h, h < i → σ' 16 h = nI (A (20 + h))) (fun i _ => [.ref 13, .ref 28, .ref 3, .int (nI i)]) (fun σ' => σ') σ1 ⟨fun _ _ => rfl, fun h hh => by omega⟩ ?_ ?_
  · intro i σ2 hi ⟨p1, p2⟩ hk
    (repeat (first | refine gx_run 999 80 rfl ?_ | refine gx_goto rfl rfl ?_))
    rw [show σ2 13 6 = nI (dH D) by rw [p1 13 (by omega)]; exact a6]
    first | refine gx_iff rfl (nI_ge hi (by omega)) ?_ | refine gx_icf rfl (nI_ge hi (by omega)) ?_
    (repeat (first | refine gx_run 999 80 rfl ?_ | refine gx_goto rfl rfl ?_))
    refine gx_call rfl rfl rfl ?_
    refine xw_noesLeft (A := A) (by rw [p1 4 (by omega)]; exact hX1) (by omega) ?_
    (repeat (first | refine gx_run 999 80 rfl ?_ | refine gx_goto rfl rfl ?_))
    refine gx_st i rfl (by omega) rfl rfl rfl ?_
    (repeat (first | refine gx_run 999 80 rfl ?_ | refine gx_goto rfl rfl ?_))
    refine gw_goto rfl ?_
    rw [nI_1]
    refine hk _ ⟨fun o ho => by rw [gu_o ho, p1 o ho], fun h hh => ?_⟩
    by_cases e : h = i
    · rw [e, gu_s]
    · rw [gu_k (Or.inr e)]; exact p2 h (by omega)
  intro σ2 ⟨p1, p2⟩
  (repeat (first | refine gx_run 999 80 rfl ?_ | refine gx_goto rfl rfl ?_))
  rw [show σ2 13 6 = nI (dH D) by rw [p1 13 (by omega)]; exact a6]
  first | refine gx_ift rfl (nI_le (Nat.le_refl _) (by omega)) ?_ | refine gx_ict rfl (nI_le (Nat.le_refl _) (by omega)) ?_
  (refine gw_run 59 80 rfl ?_)
  refine gw_forP (dG D) (fun i (σ' : gn_Mem) => (∀ o, o ≠ 14 → σ' o = σ2 o) ∧ ∀ g h, g < i → h < dH D → σ' 14 (4 * g + h) = pgi D A g h) (fun i _ => [.ref 13, .ref 28, .ref 3, .int (nI i)]) (fun σ' => σ') σ2 ⟨fun _ _ => rfl, fun g h hh => by omega⟩ ?_ ?_
  · intro i σ3 hi ⟨q1, q2⟩ hk
    (repeat (first | refine gx_run 999 80 rfl ?_ | refine gx_goto rfl rfl ?_))
    rw [show σ3 13 5 = nI (dG D) by rw [q1 13 (by omega), p1 13 (by omega)]; exact a5]
    first | refine gx_iff rfl (nI_ge hi (by omega)) ?_ | refine gx_icf rfl (nI_ge hi (by omega)) ?_
    (repeat (first | refine gx_run 999 80 rfl ?_ | refine gx_goto rfl rfl ?_))
    refine gx_call rfl rfl rfl ?_
    refine xw_weighGuest (A := A) (D := D) (gT_fr hT (fun o b1 b2 => by rw [q1 o (by omega), p1 o (by omega), f1 o (by omega)])) (by rw [q1 4 (by omega), p1 4 (by omega)]; exact hX1) hA hi (by rw [q1 13 (by omega), p1 13 (by omega)]; exact a6) (fun h hh => by rw [q1 16 (by omega)]; exact p2 h hh) ?_
    intro σ4 r1 r2 r3
    (repeat (first | refine gx_run 999 80 rfl ?_ | refine gx_goto rfl rfl ?_))
    refine gw_goto rfl ?_
    rw [nI_1]
    refine hk _ ⟨fun o ho => by rw [r1 o ho, q1 o ho], fun g h hg hh => ?_⟩
    by_cases e : g = i
    · rw [e]; exact r3 h hh
    · rw [r2 _ (by omega)]; exact q2 g h (by omega) hh
  intro σ3 ⟨q1, q2⟩
  have b5 : σ3 13 5 = nI (dG D) := by rw [q1 13 (by omega), p1 13 (by omega)]; exact a5
  have b6 : σ3 13 6 = nI (dH D) := by rw [q1 13 (by omega), p1 13 (by omega)]; exact a6
  (repeat (first | refine gx_run 999 80 rfl ?_ | refine gx_goto rfl rfl ?_))
  rw [b5]
  first | refine gx_ift rfl (nI_le (Nat.le_refl _) (by omega)) ?_ | refine gx_ict rfl (nI_le (Nat.le_refl _) (by omega)) ?_
  (repeat (first | refine gx_run 999 80 rfl ?_ | refine gx_goto rfl rfl ?_))
  refine gx_call rfl rfl rfl ?_
  refine xw_sumHopes hT.1 hA b5 b6 q2 ?_
  intro σ4 s1 s2
  (repeat (first | refine gx_run 999 80 rfl ?_ | refine gx_goto rfl rfl ?_))
  refine gx_call rfl rfl rfl ?_
  rw [show [Value.ref 13, .int 0, .int 0] = [.ref 13, .int (nI (dG D - dG D)), .int (nI 0)] by rw [Nat.sub_self]; rfl]
  refine xw_choose (σ0 := σ4) hT.1 hA (by rw [s1 13 (by omega)]; exact b5) (by rw [s1 13 (by omega)]; exact b6) (fun g h hg hh => by rw [s1 14 (by omega)]; exact q2 g h hg hh) s2 (dG D) (d + 8) 0 (fun h => A (20 + h)) 0 (0, 0) σ4 _ (Nat.le_refl _) (by omega) (by omega) (by show 0 ≤ _; omega) ?_ ?_
  · refine ⟨fun _ _ _ _ _ => rfl, fun _ _ => rfl, ?_, fun h hh => ⟨?_, Nat.le_refl _⟩, fun j hj => by omega, fun q => absurd rfl q⟩
    · rw [s1 13 (by omega), q1 13 (by omega), p1 13 (by omega)]; exact a7
    · rw [s1 16 (by omega), q1 16 (by omega)]; exact p2 h hh
  · intro σ5 hc5
    obtain ⟨e1', e2, e3, e4, e5, e6⟩ := hc5
    (repeat (first | refine gx_run 999 80 rfl ?_ | refine gx_goto rfl rfl ?_))
    refine gw_vret rfl ?_
    refine hQ σ5 (fun o ho => ?_) ?_ e3 (e6 (vis_pos _ _ _ _ _))
    · rw [e1' o (by omega) (by omega) (by omega) (by omega), s1 o (by omega), q1 o (by omega), p1 o (by omega), f1 o (by omega)]
    · rw [e2 5 (by omega), s1 13 (by omega)]; exact b5
theorem xw_hostOf {j : Nat} {v : Int32} (hj : j < dG D) (hle : dG D ≤ 6) (h5 : σ 13 5 = nI (dG D)) (h18 : σ 18 j = v) (hQ : Q (some (.int v)) σ) : gn_W d 49 0 [.ref 13, .int (nI j)] [] σ Q := by
  (repeat (first | refine gx_run 999 80 rfl ?_ | refine gx_goto rfl rfl ?_))
  first | refine gx_iff rfl (nI_pos (by omega)) ?_ | refine gx_icf rfl (nI_pos (by omega)) ?_
  (repeat (first | refine gx_run 999 80 rfl ?_ | refine gx_goto rfl rfl ?_))
  rw [h5]
  first | refine gx_iff rfl (nI_ge hj (by omega)) ?_ | refine gx_icf rfl (nI_ge hj (by omega)) ?_
  (repeat (first | refine gx_run 999 80 rfl ?_ | refine gx_goto rfl rfl ?_))
  refine gx_ld j rfl (by omega) h18 rfl rfl rfl ?_
  (repeat (first | refine gx_run 999 80 rfl ?_ | refine gx_goto rfl rfl ?_))
  refine gx_iret rfl rfl ?_
  exact hQ
theorem mw_mostBy (hM : gM σ D) (hX : mR (σ 45) A) (hA : wA2 D A) {g h : Nat} (hg : g < dG D) (hh : h < dH D) (hQ : Q (some (.int (nI (pG D A g h)))) σ) : gn_W (d + 3) 183 0 [.ref 44, .int (nI g), .int (nI h)] [] σ Q := by
  have hle := hM.1.1
  have hhe := hM.1.2.1
  have hc := hM.1.2.2.2.2.1 g hg
  have ha := hA.1 g hg
  (repeat (first | refine gx_run 999 80 rfl ?_ | refine gx_goto rfl rfl ?_))
  refine gx_call rfl rfl rfl ?_
  refine mw_firstOpen hX (by omega) (by omega) ?_
  (refine gw_run 9 80 rfl ?_)
  refine gw_for (dC D g - (A g - 1)) (fun _ (y : Unit) => y) (fun _ _ => True) (fun i _ => [.ref 44, .int (nI g), .int (nI h), .int (nI (mxJ D g h (A g - 1) i)), .int (nI (A g - 1 + i))]) (fun _ => σ) () trivial (fun _ _ _ _ => trivial) ?_ ?_
  · intro i _ hi _ hk
    have hm := hM.1.mxJ hg hh (f := A g - 1) (n := i) (by omega)
    have hj := hM.1.jP hg hh (k := A g - 1 + i) (by omega)
    have e : mxJ D g h (A g - 1) (i + 1) = max (mxJ D g h (A g - 1) i) (jP D g h (A g - 1 + i) + (A g - 1 + i)) := rfl
    rw [e] at hk
    (repeat (first | refine gx_run 999 80 rfl ?_ | refine gx_goto rfl rfl ?_))
    refine gx_ld g rfl (by omega) (hM.2.2.2.2.2.1 g hg).2 rfl rfl rfl ?_
    first | refine gx_iff rfl (nI_ge (by omega) (by omega)) ?_ | refine gx_icf rfl (nI_ge (by omega) (by omega)) ?_
    (repeat (first | refine gx_run 999 80 rfl ?_ | refine gx_goto rfl rfl ?_))
    refine gx_call rfl rfl rfl ?_
    refine mw_joyOf hM hg hh (by omega) ?_
    (repeat (first | refine gx_run 999 80 rfl ?_ | refine gx_goto rfl rfl ?_))
    by_cases q : jP D g h (A g - 1 + i) + (A g - 1 + i) ≤ mxJ D g h (A g - 1) i
    · rw [Nat.max_eq_left q] at hk
      first | refine gx_ift rfl (nI_le q (by omega)) ?_ | refine gx_ict rfl (nI_le q (by omega)) ?_
      (repeat (first | refine gx_run 999 80 rfl ?_ | refine gx_goto rfl rfl ?_))
      refine gw_goto rfl ?_
      rw [nI_1]
      exact hk
    · rw [Nat.max_eq_right (by omega)] at hk
      first | refine gx_iff rfl (nI_ge (by omega) (by omega)) ?_ | refine gx_icf rfl (nI_ge (by omega) (by omega)) ?_
      (repeat (first | refine gx_run 999 80 rfl ?_ | refine gx_goto rfl rfl ?_))
      refine gx_call rfl rfl rfl ?_
      refine mw_joyOf hM hg hh (by omega) ?_
      (repeat (first | refine gx_run 999 80 rfl ?_ | refine gx_goto rfl rfl ?_))
      refine gw_goto rfl ?_
      rw [nI_1]
      exact hk
  · intro _
    (repeat (first | refine gx_run 999 80 rfl ?_ | refine gx_goto rfl rfl ?_))
    refine gx_ld g rfl (by omega) (hM.2.2.2.2.2.1 g hg).2 rfl rfl rfl ?_
    first | refine gx_ift rfl (nI_le (by omega) (by omega)) ?_ | refine gx_ict rfl (nI_le (by omega) (by omega)) ?_
    (repeat (first | refine gx_run 999 80 rfl ?_ | refine gx_goto rfl rfl ?_))
    refine gx_iret rfl rfl ?_
    exact hQ
theorem mw_power {n : Nat} (hn : n ≤ 6) (hQ : Q (some (.int (nI (5 ^ n)))) σ) : gn_W d 186 0 [.int 5, .int (nI n)] [] σ Q := by
  (refine gw_run 4 80 rfl ?_)
  refine gw_for n (fun _ (y : Unit) => y) (fun _ _ => True) (fun i _ => [.int 5, .int (nI n), .int (nI (5 ^ i)), .int (nI i)]) (fun _ => σ) () trivial (fun _ _ _ _ => trivial) ?_ ?_
  · intro i _ hi _ hk
    (repeat (first | refine gx_run 999 80 rfl ?_ | refine gx_goto rfl rfl ?_))
    first | refine gx_iff rfl (nI_ge hi (by omega)) ?_ | refine gx_icf rfl (nI_ge hi (by omega)) ?_
    (repeat (first | refine gx_run 999 80 rfl ?_ | refine gx_goto rfl rfl ?_))
    rw [show nI (5 ^ i) * 5 = nI (5 ^ (i + 1)) by rw [show (5 : Int32) = nI 5 from rfl, pk_mul, Nat.pow_succ]]
    refine gw_goto rfl ?_
    rw [nI_1]
    exact hk
  · intro _
    (repeat (first | refine gx_run 999 80 rfl ?_ | refine gx_goto rfl rfl ?_))
    first | refine gx_ift rfl (nI_le (Nat.le_refl _) (by omega)) ?_ | refine gx_ict rfl (nI_le (Nat.le_refl _) (by omega)) ?_
    (repeat (first | refine gx_run 999 80 rfl ?_ | refine gx_goto rfl rfl ?_))
    refine gx_iret rfl rfl ?_
    exact hQ
/-- the loop over the guests, from the last on -/
theorem mw_plannedL {σ0 : gn_Mem} (hM : gM σ0 D) (hX : mR (σ0 45) A) (hA : wA2 D A) {p : Int32} : ∀ (n : Nat) (sum rest : Nat) (left : Nat → Nat) (σ : gn_Mem), n ≤ dG D → rest < 2 ^ 30 → sum ≤ 28 * (dG D - n) → (∀ o, o ≠ 61 → σ o = σ0 o) → (∀ h, h < dH D → σ 61 h = nI (left h) ∧ left h ≤ 9) → (∀ σ' : gn_Mem, (∀ o, o ≠ 61 → σ' o = σ0 o) → Q (some (.int (eo ((evM D A 0 n rest left).map (· + sum))))) σ') → gn_W (d + 4) 185 47 [.ref 44, .int p, .int (nI sum), .int (nI rest), .int (nI n - 1)] [] σ Q := by
  have hle := hM.1.1
  have hhe := hM.1.2.1
  intro n
  induction n with
  | zero =>
    intro sum rest left σ hn hr hs f hl hQ
    (repeat (first | refine gx_run 999 80 rfl ?_ | refine gx_goto rfl rfl ?_))
    first | refine gx_ift rfl (show nI 0 - 1 < 0 by decide) ?_ | refine gx_ict rfl (show nI 0 - 1 < 0 by decide) ?_
    (repeat (first | refine gx_run 999 80 rfl ?_ | refine gx_goto rfl rfl ?_))
    refine gx_iret rfl rfl ?_
    have := hQ σ f
    rw [show (evM D A 0 0 rest left).map (· + sum) = some (0 + sum) from rfl, Nat.zero_add] at this
    exact this
  | succ n ih =>
    intro sum rest left σ hn hr hs f hl hQ
    have hM1 : gM σ D := gM_fr hM (fun k _ => by rw [f 44 (by omega)]) (fun o a b => f o (by omega))
    have hX1 : mR (σ 45) A := by rw [f 45 (by omega)]; exact hX
    have hby := hA.1 n (by omega)
    rw [nI_pred]
    have em : nI rest - nI rest / 5 * 5 = nI (rest % 5) := pk_rem (d := 5) (by omega) (by omega) (by omega)
    have ed : nI rest / 5 = nI (rest / 5) := pk_div (d := 5) (by omega) (by omega) (by omega)
    have e : evM D A 0 (n + 1) rest left = if rest % 5 < 4 then (if rest % 5 < dH D ∧ A (6 + n) = 0 ∧ 0 < left (rest % 5) then (evM D A 0 n (rest / 5) (ldn left (rest % 5))).map (· + pG D A n (rest % 5)) else none) else evM D A 0 n (rest / 5) left := by
      show (if _ then (if _ ∧ A (6 + (0 + n)) = 0 ∧ _ then (evM D A 0 n (rest / 5) (ldn left (rest % 5))).map (· + pG D A (0 + n) (rest % 5)) else none) else _) = _
      rw [Nat.zero_add]
    rw [e] at hQ
    (repeat (first | refine gx_run 999 80 rfl ?_ | refine gx_goto rfl rfl ?_))
    first | refine gx_iff rfl (nI_pos (by omega)) ?_ | refine gx_icf rfl (nI_pos (by omega)) ?_
    (repeat (first | refine gx_run 999 80 rfl ?_ | refine gx_goto rfl rfl ?_))
    refine gw_irem rfl (by decide) ?_
    rw [em]
    (repeat (first | refine gx_run 999 80 rfl ?_ | refine gx_goto rfl rfl ?_))
    refine gw_idiv rfl (by decide) ?_
    rw [ed]
    (repeat (first | refine gx_run 999 80 rfl ?_ | refine gx_goto rfl rfl ?_))
    generalize hdg : rest % 5 = g5 at *
    have hg5 : g5 < 5 := by omega
    by_cases b1 : g5 < 4
    · rw [if_pos b1] at hQ
      first | refine gx_iff rfl (nI_ge (b := 4) b1 (by omega)) ?_ | refine gx_icf rfl (nI_ge (b := 4) b1 (by omega)) ?_
      (repeat (first | refine gx_run 999 80 rfl ?_ | refine gx_goto rfl rfl ?_))
      rw [hM1.2.2.2.2.1]
      by_cases b2 : g5 < dH D
      · first | refine gx_iff rfl (nI_ge b2 (by omega)) ?_ | refine gx_icf rfl (nI_ge b2 (by omega)) ?_
        (repeat (first | refine gx_run 999 80 rfl ?_ | refine gx_goto rfl rfl ?_))
        rw [show (6 : Int32) + nI n = nI (6 + n) from nI_add 6 n]
        refine gx_ld (6 + n) rfl (by omega) (hX1.by (by omega)) rfl rfl rfl ?_
        (repeat (first | refine gx_run 999 80 rfl ?_ | refine gx_goto rfl rfl ?_))
        by_cases b3 : A (6 + n) = 0
        · first | refine gx_iff rfl (fun q => q ((e1_ne (by omega)).mpr b3)) ?_ | refine gx_icf rfl (fun q => q ((e1_ne (by omega)).mpr b3)) ?_
          (repeat (first | refine gx_run 999 80 rfl ?_ | refine gx_goto rfl rfl ?_))
          refine gx_ld g5 rfl (by omega) (hl g5 b2).1 rfl rfl rfl ?_
          have hl9 := (hl g5 b2).2
          by_cases b4 : 0 < left g5
          · rw [if_pos ⟨b2, b3, b4⟩] at hQ
            first | refine gx_ift rfl (nI_ne0 b4 (by omega)) ?_ | refine gx_ict rfl (nI_ne0 b4 (by omega)) ?_
            (repeat (first | refine gx_run 999 80 rfl ?_ | refine gx_goto rfl rfl ?_))
            refine gx_ld g5 rfl (by omega) (hl g5 b2).1 rfl rfl rfl ?_
            (repeat (first | refine gx_run 999 80 rfl ?_ | refine gx_goto rfl rfl ?_))
            obtain ⟨lf, hlf⟩ : ∃ lf, left g5 = lf + 1 := ⟨left g5 - 1, by omega⟩
            rw [hlf, nI_pred]
            refine gx_st g5 rfl (by omega) rfl rfl rfl ?_
            have f2 : ∀ o, o ≠ 61 → gn_up σ 61 g5 (nI lf) o = σ0 o := fun o ho => by rw [gu_o ho]; exact f o ho
            have hM2 : gM (gn_up σ 61 g5 (nI lf)) D := gM_fr hM (fun k _ => by rw [f2 44 (by omega)]) (fun o a b => f2 o (by omega))
            have hX2 : mR (gn_up σ 61 g5 (nI lf) 45) A := by rw [f2 45 (by omega)]; exact hX
            have hpg := pG_le hM.1 hA (g := n) (h := g5) (by omega) b2
            (repeat (first | refine gx_run 999 80 rfl ?_ | refine gx_goto rfl rfl ?_))
            refine gx_call rfl rfl rfl ?_
            refine mw_mostBy hM2 hX2 hA (by omega) b2 ?_
            (repeat (first | refine gx_run 999 80 rfl ?_ | refine gx_goto rfl rfl ?_))
            rw [nI_add]
            refine gw_goto rfl ?_
            rw [m1e]
            refine gx_drop [_, _, _, _, _] [_] (by rfl) (ih (sum + pG D A n g5) (rest / 5) (ldn left g5) _ (by omega) (by omega) (by omega) f2 (fun h hh => ?_) (fun σ' f' => ?_))
            · refine ⟨?_, Nat.le_trans ldn_le (hl h hh).2⟩
              unfold ldn
              by_cases e : h = g5
              · rw [if_pos e, e, gu_s, hlf]; rfl
              · rw [if_neg e, gu_k (Or.inr e)]; exact (hl h hh).1
            · have := hQ σ' f'
              cases hv : evM D A 0 n (rest / 5) (ldn left g5) with
              | none => rw [hv] at this; exact this
              | some v =>
                rw [hv] at this
                rw [show ((some v).map (· + pG D A n g5)).map (· + sum) = (some v).map (· + (sum + pG D A n g5)) by
                  show some (v + pG D A n g5 + sum) = some (v + (sum + pG D A n g5))
                  congr 1
                  omega] at this
                exact this
          · rw [if_neg (fun z => b4 z.2.2)] at hQ
            first | refine gx_iff rfl (fun q => q (show nI (left g5) = 0 by rw [show left g5 = 0 by omega]; rfl)) ?_ | refine gx_icf rfl (fun q => q (show nI (left g5) = 0 by rw [show left g5 = 0 by omega]; rfl)) ?_
            (repeat (first | refine gx_run 999 80 rfl ?_ | refine gx_goto rfl rfl ?_))
            refine gx_iret rfl rfl ?_
            exact hQ σ f
        · rw [if_neg (fun z => b3 z.2.1)] at hQ
          first | refine gx_ift rfl (fun q => b3 ((e1_ne (by omega)).mp q)) ?_ | refine gx_ict rfl (fun q => b3 ((e1_ne (by omega)).mp q)) ?_
          (repeat (first | refine gx_run 999 80 rfl ?_ | refine gx_goto rfl rfl ?_))
          refine gx_iret rfl rfl ?_
          exact hQ σ f
      · rw [if_neg (fun z => b2 z.1)] at hQ
        first | refine gx_ift rfl (nI_le (by omega) (by omega)) ?_ | refine gx_ict rfl (nI_le (by omega) (by omega)) ?_
        (repeat (first | refine gx_run 999 80 rfl ?_ | refine gx_goto rfl rfl ?_))
        refine gx_iret rfl rfl ?_
        exact hQ σ f
    · rw [if_neg b1] at hQ
      first | refine gx_ift rfl (nI_le (a := 4) (by omega) (by omega)) ?_ | refine gx_ict rfl (nI_le (a := 4) (by omega) (by omega)) ?_
      (repeat (first | refine gx_run 999 80 rfl ?_ | refine gx_goto rfl rfl ?_))
      refine gw_goto rfl ?_
      rw [m1e]
      exact gx_drop [_, _, _, _, _] [_] (by rfl) (ih sum (rest / 5) left σ (by omega) (by omega) (by omega) f hl hQ)
theorem mw_planned (hM : gM σ D) (hX : mR (σ 45) A) (hA : wA2 D A) {p : Nat} (hp : p < 2 ^ 30) (hQ : ∀ σ' : gn_Mem, (∀ o, o ≠ 61 → σ' o = σ o) → Q (some (.int (eo (evM D A 0 (dG D) p (fun h => A (20 + h)))))) σ') : gn_W (d + 4) 185 0 [.ref 44, .int (nI p)] [] σ Q := by
  have hle := hM.1.1
  have hhe := hM.1.2.1
  (refine gw_run 7 80 rfl ?_)
  refine gw_forP (dH D) (fun i (σ' : gn_Mem) => (∀ o, o ≠ 61 → σ' o = σ o) ∧ ∀ h, h < i → σ' 61 h = nI (A (20 + h))) (fun i _ => [.ref 44, .int (nI p), .int 0, .int (nI p), .int (nI i)]) (fun σ' => σ') σ ⟨fun _ _ => rfl, fun h hh => by omega⟩ ?_ ?_
  · intro i σ2 hi ⟨p1, p2⟩ hk
    (repeat (first | refine gx_run 999 80 rfl ?_ | refine gx_goto rfl rfl ?_))
    rw [show σ2 44 9 = nI (dH D) by rw [p1 44 (by omega)]; exact hM.2.2.2.2.1]
    first | refine gx_iff rfl (nI_ge hi (by omega)) ?_ | refine gx_icf rfl (nI_ge hi (by omega)) ?_
    (repeat (first | refine gx_run 999 80 rfl ?_ | refine gx_goto rfl rfl ?_))
    rw [show (20 : Int32) + nI i = nI (20 + i) from nI_add 20 i]
    refine gx_ld (20 + i) rfl (by omega) (show σ2 45 (20 + i) = nI (A (20 + i)) by rw [p1 45 (by omega)]; exact hX.no (by omega)) rfl rfl rfl ?_
    (repeat (first | refine gx_run 999 80 rfl ?_ | refine gx_goto rfl rfl ?_))
    refine gx_st i rfl (by omega) rfl rfl rfl ?_
    (repeat (first | refine gx_run 999 80 rfl ?_ | refine gx_goto rfl rfl ?_))
    refine gw_goto rfl ?_
    rw [nI_1]
    refine hk _ ⟨fun o ho => by rw [gu_o ho, p1 o ho], fun h hh => ?_⟩
    by_cases e : h = i
    · rw [e, gu_s]
    · rw [gu_k (Or.inr e)]; exact p2 h (by omega)
  · intro σ2 ⟨p1, p2⟩
    (repeat (first | refine gx_run 999 80 rfl ?_ | refine gx_goto rfl rfl ?_))
    rw [show σ2 44 9 = nI (dH D) by rw [p1 44 (by omega)]; exact hM.2.2.2.2.1]
    first | refine gx_ift rfl (nI_le (Nat.le_refl _) (by omega)) ?_ | refine gx_ict rfl (nI_le (Nat.le_refl _) (by omega)) ?_
    (refine gw_run 47 80 rfl ?_)
    rw [show σ2 44 8 = nI (dG D) by rw [p1 44 (by omega)]; exact hM.2.2.2.1]
    refine mw_plannedL hM hX hA (dG D) 0 p (fun h => A (20 + h)) σ2 (Nat.le_refl _) hp (by omega) p1 (fun h hh => ⟨p2 h hh, hA.2.2.1 h (by omega)⟩) (fun σ' f => ?_)
    have := hQ σ' f
    cases hv : evM D A 0 (dG D) p (fun h => A (20 + h)) with
    | none => rw [hv] at this; exact this
    | some v => rw [hv] at this; exact this
def stP (D : gD) (A : gA) (i : Nat) (S : gS) : gS := lfS i (evM D A 0 (dG D) i (fun h => A (20 + h))) S
theorem plS_eq (hW : gW D) : gf (stP D A) (5 ^ dG D) (0, 0) = plS D A := by
  have h := gf_vis (A := A) hW (dG D) (Nat.le_refl _) 0 (fun h => A (20 + h)) 0 (0, 0)
  rw [Nat.sub_self] at h
  unfold plS
  rw [← h]
  refine gf_congr (fun i S hi => ?_) _
  unfold stP
  rw [Nat.zero_mul, Nat.zero_add]
  congr 1
  cases evM D A 0 (dG D) i (fun h => A (20 + h)) <;> rfl
theorem evM_le (hW : gW D) (hA : wA2 D A) : ∀ n p left v, n ≤ dG D → evM D A 0 n p left = some v → v ≤ 28 * n := by
  intro n
  induction n with
  | zero => intro p left v _ h; cases h; omega
  | succ n ih =>
    intro p left v hn h
    have h : (if p % 5 < 4 then (if p % 5 < dH D ∧ A (6 + (0 + n)) = 0 ∧ 0 < left (p % 5) then (evM D A 0 n (p / 5) (ldn left (p % 5))).map (· + pG D A (0 + n) (p % 5)) else none) else evM D A 0 n (p / 5) left) = some v := h
    rw [Nat.zero_add] at h
    split at h
    · split at h
      · rename_i q1 q2
        have hpg := pG_le hW hA (g := n) (h := p % 5) (by omega) q2.1
        cases hv : evM D A 0 n (p / 5) (ldn left (p % 5)) with
        | none => rw [hv] at h; cases h
        | some u =>
          rw [hv] at h
          have h2 := ih _ _ _ (by omega) hv
          have h : some (u + pG D A n (p % 5)) = some v := h
          cases h
          omega
      · cases h
    · have := ih _ _ _ (by omega) h
      omega
end
