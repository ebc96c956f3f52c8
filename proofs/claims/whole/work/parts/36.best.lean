/-! best -/
theorem gPair.s {x m : Nat} {as : List Value} {σ : gn_Mem} (hI : Inv σ) (v : Int32) (hx : ∀ Q : Option Value → gn_Mem → Prop, (∀ σ' : gn_Mem, (∀ o, ¬ gScr o → σ' o = σ o) → Q (some (.int v)) σ') → gn_W 20 x 0 (.ref 0 :: as) [] σ Q) (hm : ∀ σ1 : gn_Mem, (∀ o, ¬ gScr o → σ1 o = σ o) → ∀ Q : Option Value → gn_Mem → Prop, (∀ σ' : gn_Mem, (∀ o, ¬ gScr o → σ' o = σ1 o) → Q (some (.int v)) σ') → gn_W 20 m 0 (.ref 44 :: as) [] σ1 Q) : gPair x m as σ :=
  hx _ (fun σ1 h1 => hm σ1 h1 _ (fun σ2 h2 => ⟨⟨v, rfl, rfl⟩, hI.scr (fun o ho => by rw [h2 o ho, h1 o ho])⟩))
theorem gM.scr {σ σ1 : gn_Mem} {D : gD} (h : gM σ D) (e : ∀ o, ¬ gScr o → σ1 o = σ o) : gM σ1 D :=
  gM_fr h (fun k _ => by rw [e 44 (by unfold gScr; omega)]) (fun o a b => e o (by unfold gScr; omega))
theorem gT.scr {σ σ1 : gn_Mem} {D : gD} (h : gT 28 σ D) (e : ∀ o, ¬ gScr o → σ1 o = σ o) : gT 28 σ1 D :=
  gT_fr h (fun o a b => e o (by unfold gScr; omega))
abbrev gY : Type := Int32 × Int32 × Int32
def bIn (D : gD) (A : gA) (g k : Nat) (h : Nat) (y : gY) : gY := if 0 < A (20 + h) ∧ y.1 < nI (jP D g h k + k) then (nI (jP D g h k + k), nI k, nI h) else y
def bOut (D : gD) (A : gA) (g f : Nat) (i : Nat) (y : gY) : gY := gf (bIn D A g (f + i)) (dH D) y
def bB (D : gD) (A : gA) (g : Nat) : gY := if A (6 + g) = 0 then gf (bOut D A g (A g - 1)) (dC D g - (A g - 1)) (-1, -1, -1) else (-1, -1, -1)
def pkM (σ : gn_Mem) (y : gY) : gn_Mem := gn_upF σ 12 (fun j => if j = 0 then y.1 else if j = 1 then y.2.1 else if j = 2 then y.2.2 else σ 12 j)
theorem pkM_up (σ : gn_Mem) (a b c : Int32) : gn_up (gn_up (gn_up σ 12 0 a) 12 1 b) 12 2 c = pkM σ (a, b, c) := by
  funext o j
  by_cases ho : o = 12
  · subst ho
    unfold pkM
    rw [gn_upF_eq]
    dsimp only
    by_cases h2 : j = 2
    · subst h2; rw [gu_s]; rfl
    · rw [gu_k (Or.inr h2)]
      by_cases h1 : j = 1
      · subst h1; rw [gu_s]; rfl
      · rw [gu_k (Or.inr h1)]
        by_cases h0 : j = 0
        · subst h0; rw [gu_s]; rfl
        · rw [gu_k (Or.inr h0), if_neg h0, if_neg h1, if_neg h2]
  · unfold pkM
    rw [gu_k (Or.inl ho), gu_k (Or.inl ho), gu_k (Or.inl ho), gF_k ho]
theorem pkM_pkM (σ : gn_Mem) (y z : gY) : pkM (pkM σ y) z = pkM σ z := by
  funext o j
  unfold pkM
  by_cases ho : o = 12
  · subst ho
    rw [gn_upF_eq, gn_upF_eq, gn_upF_eq]
    by_cases h0 : j = 0
    · rw [if_pos h0, if_pos h0]
    · rw [if_neg h0, if_neg h0]
      by_cases h1 : j = 1
      · rw [if_pos h1, if_pos h1, if_neg h0]
      · rw [if_neg h1, if_neg h1]
        by_cases h2 : j = 2
        · rw [if_pos h2, if_pos h2, if_neg h0, if_neg h1]
        · rw [if_neg h2, if_neg h2, if_neg h0, if_neg h1, if_neg h2]
  · rw [gF_k ho, gF_k ho, gF_k ho]
theorem pkM_o {σ : gn_Mem} {y : gY} {o : Nat} (h : o ≠ 12) : pkM σ y o = σ o := by unfold pkM; rw [gn_upF_ne h]
theorem pkM_0 {σ : gn_Mem} {y : gY} : pkM σ y 12 0 = y.1 := by unfold pkM; rw [gn_upF_eq]; rfl
theorem pkM_1 {σ : gn_Mem} {y : gY} : pkM σ y 12 1 = y.2.1 := by unfold pkM; rw [gn_upF_eq]; rfl
theorem pkM_2 {σ : gn_Mem} {y : gY} : pkM σ y 12 2 = y.2.2 := by unfold pkM; rw [gn_upF_eq]; rfl
section
variable {d : Nat} {σ : gn_Mem} {Q : Option Value → gn_Mem → Prop} {D : gD} {A : gA}
theorem xw_seek (hT : gT 28 σ D) (hX : xR (σ 4) A) (hA : wA2 D A) {g : Nat} (hg : g < dG D) (hQ : Q none (pkM σ (bB D A g))) : gn_W (d + 4) 44 0 [.ref 12, .ref 28, .ref 3, .int (nI g)] [] σ Q := by
  have hle := hT.1.1
  have hhe := hT.1.2.1
  have hc := hT.1.2.2.2.2.1 g hg
  have ha := hA.1 g hg
  have hTy : ∀ y, gT 28 (pkM σ y) D := fun y => gT_fr hT (fun o h1 h2 => pkM_o (by omega))
  have hXy : ∀ y, xR (pkM σ y 4) A := fun y => by rw [pkM_o (by omega)]; exact hX
  (repeat (first | refine gx_run 999 80 rfl ?_ | refine gx_goto rfl rfl ?_))
  rw [pkM_up]
  refine gx_call rfl rfl rfl ?_
  refine xw_toldBy (hXy _) (by omega) ?_
  (repeat (first | refine gx_run 999 80 rfl ?_ | refine gx_goto rfl rfl ?_))
  by_cases hb : A (6 + g) = 0
  · first | refine gx_ift rfl ((e1_ne (by omega)).mpr hb) ?_ | refine gx_ict rfl ((e1_ne (by omega)).mpr hb) ?_
    (repeat (first | refine gx_run 999 80 rfl ?_ | refine gx_goto rfl rfl ?_))
    refine gx_call rfl rfl rfl ?_
    refine xw_claimCount (hTy _) hg ?_
    (repeat (first | refine gx_run 999 80 rfl ?_ | refine gx_goto rfl rfl ?_))
    refine gx_call rfl rfl rfl ?_
    refine xw_foc (hXy _) (by omega) (by omega) ?_
    (refine gw_run 39 80 rfl ?_)
    have hbB : bB D A g = gf (bOut D A g (A g - 1)) (dC D g - (A g - 1)) (-1, -1, -1) := if_pos hb
    generalize hf : A g - 1 = f at *
    refine gw_for (dC D g - f) (bOut D A g f) (fun _ _ => True) (fun i _ => [.ref 12, .ref 28, .ref 3, .int (nI g), .int (nI (dC D g)), .int (nI (f + i))]) (fun y => pkM σ y) (-1, -1, -1) trivial (fun _ _ _ _ => trivial) ?_ ?_
    · intro i y hi _ hn
      (repeat (first | refine gx_run 999 80 rfl ?_ | refine gx_goto rfl rfl ?_))
      first | refine gx_iff rfl (nI_ge (by omega) (by omega)) ?_ | refine gx_icf rfl (nI_ge (by omega) (by omega)) ?_
      (refine gw_run 49 80 rfl ?_)
      have hn2 : gn_W (d + 4) 44 39 [.ref 12, .ref 28, .ref 3, .int (nI g), .int (nI (dC D g)), .int (nI (f + (i + 1)))] [] (pkM σ (gf (bIn D A g (f + i)) (dH D) y)) Q := hn
      refine gw_for (dH D) (bIn D A g (f + i)) (fun _ _ => True) (fun h _ => [.ref 12, .ref 28, .ref 3, .int (nI g), .int (nI (dC D g)), .int (nI (f + i)), .int (nI h)]) (fun y => pkM σ y) y trivial (fun _ _ _ _ => trivial) ?_ ?_
      · intro h u hh _ hn3
        unfold bIn at hn3
        (repeat (first | refine gx_run 999 80 rfl ?_ | refine gx_goto rfl rfl ?_))
        rw [show pkM σ u 28 3 = nI (dH D) from (hTy u).2.2.2.2.1]
        first | refine gx_iff rfl (nI_ge hh (by omega)) ?_ | refine gx_icf rfl (nI_ge hh (by omega)) ?_
        (repeat (first | refine gx_run 999 80 rfl ?_ | refine gx_goto rfl rfl ?_))
        refine gx_call rfl rfl rfl ?_
        refine xw_noesLeft (hXy _) (by omega) ?_
        have h9 := hA.2.2.1 h (by omega)
        (repeat (first | refine gx_run 999 80 rfl ?_ | refine gx_goto rfl rfl ?_))
        by_cases h0 : 0 < A (20 + h)
        · first | refine gx_iff rfl (fun q => absurd (nI_lt (a := 0) h0 (by omega)) (Int32.not_lt.mpr q)) ?_ | refine gx_icf rfl (fun q => absurd (nI_lt (a := 0) h0 (by omega)) (Int32.not_lt.mpr q)) ?_
          (repeat (first | refine gx_run 999 80 rfl ?_ | refine gx_goto rfl rfl ?_))
          refine gx_call rfl rfl rfl ?_
          refine xw_joyOf (hTy _) hg hh (by omega) ?_
          rw [if_pos (by omega)]
          (repeat (first | refine gx_run 999 80 rfl ?_ | refine gx_goto rfl rfl ?_))
          rw [pkM_0]
          by_cases h1 : u.1 < nI (jP D g h (f + i) + (f + i))
          · first | refine gx_iff rfl (fun q => absurd h1 (Int32.not_lt.mpr q)) ?_ | refine gx_icf rfl (fun q => absurd h1 (Int32.not_lt.mpr q)) ?_
            rw [if_pos ⟨h0, h1⟩] at hn3
            (repeat (first | refine gx_run 999 80 rfl ?_ | refine gx_goto rfl rfl ?_))
            refine gx_call rfl rfl rfl ?_
            refine xw_joyOf (hTy _) hg hh (by omega) ?_
            rw [if_pos (by omega)]
            (repeat (first | refine gx_run 999 80 rfl ?_ | refine gx_goto rfl rfl ?_))
            rw [pkM_up, pkM_pkM]
            refine gw_goto rfl ?_
            rw [nI_1]
            exact hn3
          · first | refine gx_ift rfl (Int32.not_lt.mp h1) ?_ | refine gx_ict rfl (Int32.not_lt.mp h1) ?_
            rw [if_neg (fun z => h1 z.2)] at hn3
            (repeat (first | refine gx_run 999 80 rfl ?_ | refine gx_goto rfl rfl ?_))
            refine gw_goto rfl ?_
            rw [nI_1]
            exact hn3
        · first | refine gx_ift rfl (nI_le (b := 0) (by omega) (by omega)) ?_ | refine gx_ict rfl (nI_le (b := 0) (by omega) (by omega)) ?_
          rw [if_neg (fun z => h0 z.1)] at hn3
          (repeat (first | refine gx_run 999 80 rfl ?_ | refine gx_goto rfl rfl ?_))
          refine gw_goto rfl ?_
          rw [nI_1]
          exact hn3
      · intro _
        (repeat (first | refine gx_run 999 80 rfl ?_ | refine gx_goto rfl rfl ?_))
        rw [show pkM σ (gf (bIn D A g (f + i)) (dH D) y) 28 3 = nI (dH D) from (hTy _).2.2.2.2.1]
        first | refine gx_ift rfl (nI_le (Nat.le_refl _) (by omega)) ?_ | refine gx_ict rfl (nI_le (Nat.le_refl _) (by omega)) ?_
        (repeat (first | refine gx_run 999 80 rfl ?_ | refine gx_goto rfl rfl ?_))
        refine gw_goto rfl ?_
        rw [nI_1]
        exact gx_drop [_, _, _, _, _, _] [_] (by rfl) hn2
    · intro _
      (repeat (first | refine gx_run 999 80 rfl ?_ | refine gx_goto rfl rfl ?_))
      first | refine gx_ift rfl (nI_le (by omega) (by omega)) ?_ | refine gx_ict rfl (nI_le (by omega) (by omega)) ?_
      refine gw_vret rfl ?_
      rw [← hbB]
      exact hQ
  · first | refine gx_iff rfl (fun q => hb ((e1_ne (by omega)).mp q)) ?_ | refine gx_icf rfl (fun q => hb ((e1_ne (by omega)).mp q)) ?_
    (repeat (first | refine gx_run 999 80 rfl ?_ | refine gx_goto rfl rfl ?_))
    refine gw_vret rfl ?_
    rw [show bB D A g = (-1, -1, -1) from if_neg hb] at hQ
    exact hQ
theorem mw_firstOpen (hX : mR (σ 45) A) {g : Nat} (hg : g < 6) (hs : A g ≤ 6) (hQ : Q (some (.int (nI (A g - 1)))) σ) : gn_W d 182 0 [.ref 44, .int (nI g)] [] σ Q := by
  (repeat (first | refine gx_run 999 80 rfl ?_ | refine gx_goto rfl rfl ?_))
  refine gx_ld g rfl (by omega) (hX.said hg) rfl rfl rfl ?_
  by_cases h0 : A g = 0
  · first | refine gx_ift rfl (nI_le (b := 0) (by omega) (by omega)) ?_ | refine gx_ict rfl (nI_le (b := 0) (by omega) (by omega)) ?_
    (repeat (first | refine gx_run 999 80 rfl ?_ | refine gx_goto rfl rfl ?_))
    refine gx_iret rfl rfl ?_
    rw [h0] at hQ
    exact hQ
  · first | refine gx_iff rfl (fun q => absurd (nI_lt (a := 0) (show 0 < A g by omega) (by omega)) (Int32.not_lt.mpr q)) ?_ | refine gx_icf rfl (fun q => absurd (nI_lt (a := 0) (show 0 < A g by omega) (by omega)) (Int32.not_lt.mpr q)) ?_
    (repeat (first | refine gx_run 999 80 rfl ?_ | refine gx_goto rfl rfl ?_))
    refine gx_ld g rfl (by omega) (hX.said hg) rfl rfl rfl ?_
    (repeat (first | refine gx_run 999 80 rfl ?_ | refine gx_goto rfl rfl ?_))
    refine gx_iret rfl rfl ?_
    obtain ⟨m, hm⟩ : ∃ m, A g = m + 1 := ⟨A g - 1, by omega⟩
    rw [hm, nI_pred]
    rw [hm] at hQ
    exact hQ
theorem mw_bestL (hM : gM σ D) (hX : mR (σ 45) A) (hA : wA2 D A) {g : Nat} (hg : g < dG D) {w : Int32} (hQ : Q (some (.int (if w = 0 then (bB D A g).1 else if w = 1 then (bB D A g).2.1 else (bB D A g).2.2))) σ) : gn_W (d + 3) 184 23 [.ref 44, .int (nI g), .int w] [] σ Q := by
  have hle := hM.1.1
  have hhe := hM.1.2.1
  have hc := hM.1.2.2.2.2.1 g hg
  have ha := hA.1 g hg
  have hl : ∀ (n : Nat) (y : gY), y = bB D A g → gn_W (d + 3) 184 130 [.ref 44, .int (nI g), .int w, .int y.1, .int y.2.1, .int y.2.2, .int (nI n)] [] σ Q := by
    intro n y hy
    (repeat (first | refine gx_run 999 80 rfl ?_ | refine gx_goto rfl rfl ?_))
    by_cases h0 : w = 0
    · first | refine gx_iff rfl (fun q => q h0) ?_ | refine gx_icf rfl (fun q => q h0) ?_
      rw [if_pos h0, ← hy] at hQ
      (repeat (first | refine gx_run 999 80 rfl ?_ | refine gx_goto rfl rfl ?_))
      refine gx_iret rfl rfl ?_
      exact hQ
    · first | refine gx_ift rfl (h0) ?_ | refine gx_ict rfl (h0) ?_
      rw [if_neg h0] at hQ
      (repeat (first | refine gx_run 999 80 rfl ?_ | refine gx_goto rfl rfl ?_))
      by_cases h1 : w = 1
      · first | refine gx_iff rfl (fun q => q h1) ?_ | refine gx_icf rfl (fun q => q h1) ?_
        rw [if_pos h1, ← hy] at hQ
        (repeat (first | refine gx_run 999 80 rfl ?_ | refine gx_goto rfl rfl ?_))
        refine gx_iret rfl rfl ?_
        exact hQ
      · first | refine gx_ift rfl (h1) ?_ | refine gx_ict rfl (h1) ?_
        rw [if_neg h1, ← hy] at hQ
        (repeat (first | refine gx_run 999 80 rfl ?_ | refine gx_goto rfl rfl ?_))
        refine gx_iret rfl rfl ?_
        exact hQ
  (repeat (first | refine gx_run 999 80 rfl ?_ | refine gx_goto rfl rfl ?_))
  refine gx_call rfl rfl rfl ?_
  refine mw_firstOpen hX (by omega) (by omega) ?_
  (refine gw_run 38 80 rfl ?_)
  by_cases hb : A (6 + g) = 0
  · have hbB : bB D A g = gf (bOut D A g (A g - 1)) (dC D g - (A g - 1)) (-1, -1, -1) := if_pos hb
    have hbb : e1 (A (6 + g)) = -1 := (e1_ne (by omega)).mpr hb
    generalize hf : A g - 1 = f at *
    refine gw_for (dC D g - f) (bOut D A g f) (fun _ _ => True) (fun i y => [.ref 44, .int (nI g), .int w, .int y.1, .int y.2.1, .int y.2.2, .int (nI (f + i))]) (fun _ => σ) (-1, -1, -1) trivial (fun _ _ _ _ => trivial) ?_ ?_
    · intro i y hi _ hn
      (repeat (first | refine gx_run 999 80 rfl ?_ | refine gx_goto rfl rfl ?_))
      refine gx_ld g rfl (by omega) (hM.2.2.2.2.2.1 g hg).2 rfl rfl rfl ?_
      first | refine gx_iff rfl (nI_ge (by omega) (by omega)) ?_ | refine gx_icf rfl (nI_ge (by omega) (by omega)) ?_
      (repeat (first | refine gx_run 999 80 rfl ?_ | refine gx_goto rfl rfl ?_))
      rw [show (6 : Int32) + nI g = nI (6 + g) from nI_add 6 g]
      refine gx_ld (6 + g) rfl (by omega) (hX.by (by omega)) rfl rfl rfl ?_
      (repeat (first | refine gx_run 999 80 rfl ?_ | refine gx_goto rfl rfl ?_))
      rw [hbb]
      first | refine gx_iff rfl (by dsimp only [gn_cmp] <;> decide) ?_ | refine gx_icf rfl (by dsimp only [gn_cmp] <;> decide) ?_
      (refine gw_run 65 80 rfl ?_)
      have hn2 : gn_W (d + 3) 184 38 [.ref 44, .int (nI g), .int w, .int (gf (bIn D A g (f + i)) (dH D) y).1, .int (gf (bIn D A g (f + i)) (dH D) y).2.1, .int (gf (bIn D A g (f + i)) (dH D) y).2.2, .int (nI (f + (i + 1)))] [] σ Q := hn
      refine gw_for (dH D) (bIn D A g (f + i)) (fun _ _ => True) (fun h y => [.ref 44, .int (nI g), .int w, .int y.1, .int y.2.1, .int y.2.2, .int (nI (f + i)), .int (nI h)]) (fun _ => σ) y trivial (fun _ _ _ _ => trivial) ?_ ?_
      · intro h u hh _ hn3
        unfold bIn at hn3
        have h9 := hA.2.2.1 h (by omega)
        (repeat (first | refine gx_run 999 80 rfl ?_ | refine gx_goto rfl rfl ?_))
        rw [hM.2.2.2.2.1]
        first | refine gx_iff rfl (nI_ge hh (by omega)) ?_ | refine gx_icf rfl (nI_ge hh (by omega)) ?_
        (repeat (first | refine gx_run 999 80 rfl ?_ | refine gx_goto rfl rfl ?_))
        rw [show (20 : Int32) + nI h = nI (20 + h) from nI_add 20 h]
        refine gx_ld (20 + h) rfl (by omega) (hX.no (by omega)) rfl rfl rfl ?_
        by_cases h0 : 0 < A (20 + h)
        · first | refine gx_iff rfl (fun q => absurd (nI_lt (a := 0) h0 (by omega)) (Int32.not_lt.mpr q)) ?_ | refine gx_icf rfl (fun q => absurd (nI_lt (a := 0) h0 (by omega)) (Int32.not_lt.mpr q)) ?_
          (repeat (first | refine gx_run 999 80 rfl ?_ | refine gx_goto rfl rfl ?_))
          refine gx_call rfl rfl rfl ?_
          refine mw_joyOf hM hg hh (by omega) ?_
          (repeat (first | refine gx_run 999 80 rfl ?_ | refine gx_goto rfl rfl ?_))
          by_cases h1 : u.1 < nI (jP D g h (f + i) + (f + i))
          · first | refine gx_iff rfl (fun q => absurd h1 (Int32.not_lt.mpr q)) ?_ | refine gx_icf rfl (fun q => absurd h1 (Int32.not_lt.mpr q)) ?_
            rw [if_pos ⟨h0, h1⟩] at hn3
            (repeat (first | refine gx_run 999 80 rfl ?_ | refine gx_goto rfl rfl ?_))
            refine gx_call rfl rfl rfl ?_
            refine mw_joyOf hM hg hh (by omega) ?_
            (repeat (first | refine gx_run 999 80 rfl ?_ | refine gx_goto rfl rfl ?_))
            refine gw_goto rfl ?_
            rw [nI_1]
            exact hn3
          · first | refine gx_ift rfl (Int32.not_lt.mp h1) ?_ | refine gx_ict rfl (Int32.not_lt.mp h1) ?_
            rw [if_neg (fun z => h1 z.2)] at hn3
            (repeat (first | refine gx_run 999 80 rfl ?_ | refine gx_goto rfl rfl ?_))
            refine gw_goto rfl ?_
            rw [nI_1]
            exact hn3
        · first | refine gx_ift rfl (nI_le (b := 0) (by omega) (by omega)) ?_ | refine gx_ict rfl (nI_le (b := 0) (by omega) (by omega)) ?_
          rw [if_neg (fun z => h0 z.1)] at hn3
          (repeat (first | refine gx_run 999 80 rfl ?_ | refine gx_goto rfl rfl ?_))
          refine gw_goto rfl ?_
          rw [nI_1]
          exact hn3
      · intro _
        (repeat (first | refine gx_run 999 80 rfl ?_ | refine gx_goto rfl rfl ?_))
        rw [hM.2.2.2.2.1]
        first | refine gx_ift rfl (nI_le (Nat.le_refl _) (by omega)) ?_ | refine gx_ict rfl (nI_le (Nat.le_refl _) (by omega)) ?_
        (repeat (first | refine gx_run 999 80 rfl ?_ | refine gx_goto rfl rfl ?_))
        refine gw_goto rfl ?_
        rw [nI_1]
        exact gx_drop [_, _, _, _, _, _, _] [_] (by rfl) hn2
    · intro _
      (repeat (first | refine gx_run 999 80 rfl ?_ | refine gx_goto rfl rfl ?_))
      refine gx_ld g rfl (by omega) (hM.2.2.2.2.2.1 g hg).2 rfl rfl rfl ?_
      first | refine gx_ift rfl (nI_le (by omega) (by omega)) ?_ | refine gx_ict rfl (nI_le (by omega) (by omega)) ?_
      exact hl _ _ hbB.symm
  · have hbb : ¬ e1 (A (6 + g)) = -1 := fun q => hb ((e1_ne (by omega)).mp q)
    have hbB : bB D A g = (-1, -1, -1) := if_neg hb
    (repeat (first | refine gx_run 999 80 rfl ?_ | refine gx_goto rfl rfl ?_))
    refine gx_ld g rfl (by omega) (hM.2.2.2.2.2.1 g hg).2 rfl rfl rfl ?_
    first | refine gx_iff rfl (nI_ge (by omega) (by omega)) ?_ | refine gx_icf rfl (nI_ge (by omega) (by omega)) ?_
    (repeat (first | refine gx_run 999 80 rfl ?_ | refine gx_goto rfl rfl ?_))
    rw [show (6 : Int32) + nI g = nI (6 + g) from nI_add 6 g]
    refine gx_ld (6 + g) rfl (by omega) (hX.by (by omega)) rfl rfl rfl ?_
    (repeat (first | refine gx_run 999 80 rfl ?_ | refine gx_goto rfl rfl ?_))
    first | refine gx_ift rfl (hbb) ?_ | refine gx_ict rfl (hbb) ?_
    exact hl _ (-1, -1, -1) hbB.symm
end
theorem p_best {σ : gn_Mem} (hI : Inv σ) (g w : Int32) : gPair 108 184 [.int g, .int w] σ := by
  obtain ⟨D, A, c, nx, B, z, I, e, T, Z, b, G, H, n, L, hT, hN, hS, hP, hII, hE, hB, hX, hF⟩ := id hI
  have hd := hT.1
  have hle := hT.2.2.1.1.1
  by_cases hg : ¬ g < 0 ∧ ¬ nI (dG D) ≤ g
  · obtain ⟨j, hj, rfl⟩ := in_of (by omega) hg
    by_cases hw : ¬ w < 0 ∧ ¬ nI 3 ≤ w
    · obtain ⟨u, hu, rfl⟩ := in_of (by omega) hw
      refine gPair.s hI (if nI u = 0 then (bB D A j).1 else if nI u = 1 then (bB D A j).2.1 else (bB D A j).2.2) (fun Q hQ => ?_) (fun σ1 h1 Q hQ => ?_)
      · (repeat (first | refine gx_run 999 80 rfl ?_ | refine gx_goto rfl rfl ?_))
        rw [hd]
        refine gx_call rfl rfl rfl ?_
        refine xw_isG hT.2.2.1 ?_
        rw [gb_t hg]
        (repeat (first | refine gx_run 999 80 rfl ?_ | refine gx_goto rfl rfl ?_))
        first | refine gx_ift rfl (by dsimp only [gn_cmp] <;> decide) ?_ | refine gx_ict rfl (by dsimp only [gn_cmp] <;> decide) ?_
        (repeat (first | refine gx_run 999 80 rfl ?_ | refine gx_goto rfl rfl ?_))
        first | refine gx_iff rfl (hw.1) ?_ | refine gx_icf rfl (hw.1) ?_
        (repeat (first | refine gx_run 999 80 rfl ?_ | refine gx_goto rfl rfl ?_))
        first | refine gx_ift rfl (nI_le (b := 2) (show u ≤ 2 by omega) (by omega)) ?_ | refine gx_ict rfl (nI_le (b := 2) (show u ≤ 2 by omega) (by omega)) ?_
        (repeat (first | refine gx_run 999 80 rfl ?_ | refine gx_goto rfl rfl ?_))
        rw [hd]
        (repeat (first | refine gx_run 999 80 rfl ?_ | refine gx_goto rfl rfl ?_))
        refine gx_call rfl rfl rfl ?_
        refine xw_seek hT.2.2.1 hN.1 hN.2.2 hj ?_
        have hq := hQ (pkM σ (bB D A j)) (fun o ho => pkM_o (fun q => ho (by unfold gScr; omega)))
        (repeat (first | refine gx_run 999 80 rfl ?_ | refine gx_goto rfl rfl ?_))
        by_cases h0 : nI u = 0
        · first | refine gx_iff rfl (fun q => q h0) ?_ | refine gx_icf rfl (fun q => q h0) ?_
          rw [if_pos h0] at hq
          (repeat (first | refine gx_run 999 80 rfl ?_ | refine gx_goto rfl rfl ?_))
          rw [pkM_0]
          refine gx_iret rfl rfl ?_
          exact hq
        · first | refine gx_ift rfl (h0) ?_ | refine gx_ict rfl (h0) ?_
          rw [if_neg h0] at hq
          (repeat (first | refine gx_run 999 80 rfl ?_ | refine gx_goto rfl rfl ?_))
          by_cases h1 : nI u = 1
          · first | refine gx_iff rfl (fun q => q h1) ?_ | refine gx_icf rfl (fun q => q h1) ?_
            rw [if_pos h1] at hq
            (repeat (first | refine gx_run 999 80 rfl ?_ | refine gx_goto rfl rfl ?_))
            rw [pkM_1]
            refine gx_iret rfl rfl ?_
            exact hq
          · first | refine gx_ift rfl (h1) ?_ | refine gx_ict rfl (h1) ?_
            rw [if_neg h1] at hq
            (repeat (first | refine gx_run 999 80 rfl ?_ | refine gx_goto rfl rfl ?_))
            rw [pkM_2]
            refine gx_iret rfl rfl ?_
            exact hq
      · have hM1 := hT.2.2.2.scr h1
        have hX1 : mR (σ1 45) A := by rw [h1 45 (by unfold gScr; omega)]; exact hN.2.1
        (repeat (first | refine gx_run 999 80 rfl ?_ | refine gx_goto rfl rfl ?_))
        refine gx_call rfl rfl rfl ?_
        refine mw_isG hM1 ?_
        rw [gb_t hg]
        (repeat (first | refine gx_run 999 80 rfl ?_ | refine gx_goto rfl rfl ?_))
        first | refine gx_ift rfl (by dsimp only [gn_cmp] <;> decide) ?_ | refine gx_ict rfl (by dsimp only [gn_cmp] <;> decide) ?_
        (repeat (first | refine gx_run 999 80 rfl ?_ | refine gx_goto rfl rfl ?_))
        refine gw_calls rfl rfl rfl ?_
        refine mw_in0 3 (by omega) rfl ?_
        rw [gb_t hw]
        (repeat (first | refine gx_run 999 80 rfl ?_ | refine gx_goto rfl rfl ?_))
        first | refine gx_ift rfl (by dsimp only [gn_cmp] <;> decide) ?_ | refine gx_ict rfl (by dsimp only [gn_cmp] <;> decide) ?_
        exact mw_bestL (d := 17) hM1 hX1 hN.2.2 hj (hQ σ1 (fun _ _ => rfl))
    · refine gPair.q hI (-1000000002) (fun Q hQ => ?_) (fun Q hQ => ?_)
      · (repeat (first | refine gx_run 999 80 rfl ?_ | refine gx_goto rfl rfl ?_))
        rw [hd]
        refine gx_call rfl rfl rfl ?_
        refine xw_isG hT.2.2.1 ?_
        rw [gb_t hg]
        (repeat (first | refine gx_run 999 80 rfl ?_ | refine gx_goto rfl rfl ?_))
        first | refine gx_ift rfl (by dsimp only [gn_cmp] <;> decide) ?_ | refine gx_ict rfl (by dsimp only [gn_cmp] <;> decide) ?_
        (repeat (first | refine gx_run 999 80 rfl ?_ | refine gx_goto rfl rfl ?_))
        first | refine gw_if rfl (fun h3 => ?_) (fun h3 => ?_) | refine gw_icmp rfl (fun h3 => ?_) (fun h3 => ?_)
        · (repeat (first | refine gx_run 999 80 rfl ?_ | refine gx_goto rfl rfl ?_))
          refine gx_iret rfl rfl ?_
          exact hQ
        · (repeat (first | refine gx_run 999 80 rfl ?_ | refine gx_goto rfl rfl ?_))
          first | refine gx_iff rfl (fun q => hw ⟨h3, fun z => absurd (show w < nI 3 from Int32.lt_of_le_of_lt q (by decide)) (Int32.not_lt.mpr z)⟩) ?_ | refine gx_icf rfl (fun q => hw ⟨h3, fun z => absurd (show w < nI 3 from Int32.lt_of_le_of_lt q (by decide)) (Int32.not_lt.mpr z)⟩) ?_
          (repeat (first | refine gx_run 999 80 rfl ?_ | refine gx_goto rfl rfl ?_))
          refine gx_iret rfl rfl ?_
          exact hQ
      · (repeat (first | refine gx_run 999 80 rfl ?_ | refine gx_goto rfl rfl ?_))
        refine gx_call rfl rfl rfl ?_
        refine mw_isG hT.2.2.2 ?_
        rw [gb_t hg]
        (repeat (first | refine gx_run 999 80 rfl ?_ | refine gx_goto rfl rfl ?_))
        first | refine gx_ift rfl (by dsimp only [gn_cmp] <;> decide) ?_ | refine gx_ict rfl (by dsimp only [gn_cmp] <;> decide) ?_
        (repeat (first | refine gx_run 999 80 rfl ?_ | refine gx_goto rfl rfl ?_))
        refine gw_calls rfl rfl rfl ?_
        refine mw_in0 3 (by omega) rfl ?_
        rw [gb_f hw]
        (repeat (first | refine gx_run 999 80 rfl ?_ | refine gx_goto rfl rfl ?_))
        first | refine gx_iff rfl (by dsimp only [gn_cmp] <;> decide) ?_ | refine gx_icf rfl (by dsimp only [gn_cmp] <;> decide) ?_
        (repeat (first | refine gx_run 999 80 rfl ?_ | refine gx_goto rfl rfl ?_))
        refine gx_iret rfl rfl ?_
        exact hQ
  · refine gPair.q hI (-1000000001) (fun Q hQ => ?_) (fun Q hQ => ?_)
    · (repeat (first | refine gx_run 999 80 rfl ?_ | refine gx_goto rfl rfl ?_))
      rw [hd]
      refine gx_call rfl rfl rfl ?_
      refine xw_isG hT.2.2.1 ?_
      rw [gb_f hg]
      (repeat (first | refine gx_run 999 80 rfl ?_ | refine gx_goto rfl rfl ?_))
      first | refine gx_iff rfl (by dsimp only [gn_cmp] <;> decide) ?_ | refine gx_icf rfl (by dsimp only [gn_cmp] <;> decide) ?_
      (repeat (first | refine gx_run 999 80 rfl ?_ | refine gx_goto rfl rfl ?_))
      refine gx_iret rfl rfl ?_
      exact hQ
    · (repeat (first | refine gx_run 999 80 rfl ?_ | refine gx_goto rfl rfl ?_))
      refine gx_call rfl rfl rfl ?_
      refine mw_isG hT.2.2.2 ?_
      rw [gb_f hg]
      (repeat (first | refine gx_run 999 80 rfl ?_ | refine gx_goto rfl rfl ?_))
      first | refine gx_iff rfl (by dsimp only [gn_cmp] <;> decide) ?_ | refine gx_icf rfl (by dsimp only [gn_cmp] <;> decide) ?_
      (repeat (first | refine gx_run 999 80 rfl ?_ | refine gx_goto rfl rfl ?_))
      refine gx_iret rfl rfl ?_
      exact hQ
