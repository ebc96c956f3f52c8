/-! the reference: its questions -/
theorem bit_1 {s t : Nat} (hs : s < 256) (ht : t < 8) : (nI s >>> (nI t &&& 31) &&& 1 = 1) ↔ s.testBit t = true := by
  have h : ∀ s, s < 256 → ∀ t, t < 8 → ((nI s >>> (nI t &&& 31) &&& 1 = 1) ↔ s.testBit t = true) := by decide +kernel
  exact h s hs t ht
theorem c_div : ∀ t, t < 8 → ∀ b, b ≤ 9 → nI (10 * t + b) / 10 = nI t := by decide
theorem c_rem : ∀ t, t < 8 → ∀ b, b ≤ 9 → nI (10 * t + b) - nI (10 * t + b) / 10 * 10 = nI b := by decide
theorem or_bit : ∀ a, a < 256 → ∀ t, t < 8 → nI a ||| (1 <<< (nI t &&& 31)) = nI (a ||| 2 ^ t) := by decide +kernel
theorem mR.said {f : Nat → Int32} {A : gA} (h : mR f A) {g : Nat} (hg : g < 6) : f g = nI (A g) := by
  rw [h g (by omega)]; unfold vv; rw [if_neg (by omega)]
theorem mR.by {f : Nat → Int32} {A : gA} (h : mR f A) {g : Nat} (hg : g < 6) : f (6 + g) = e1 (A (6 + g)) := by
  rw [h (6 + g) (by omega)]; unfold vv; rw [if_pos (by omega)]
theorem mR.at {f : Nat → Int32} {A : gA} (h : mR f A) {g : Nat} (hg : g < 6) : f (12 + g) = e1 (A (12 + g)) := by
  rw [h (12 + g) (by omega)]; unfold vv; rw [if_pos (by omega)]
theorem mR.no {f : Nat → Int32} {A : gA} (h : mR f A) {g : Nat} (hg : g < 4) : f (20 + g) = nI (A (20 + g)) := by
  rw [h (20 + g) (by omega)]; unfold vv; rw [if_neg (by omega)]
theorem mR.up {f : Nat → Int32} {A : gA} (h : mR f A) : f 18 = nI (A 18) := h 18 (by decide)
theorem mR.wk {f : Nat → Int32} {A : gA} (h : mR f A) : f 19 = nI (A 19) := h 19 (by decide)
theorem mR.gl {f : Nat → Int32} {A : gA} (h : mR f A) : f 24 = nI (A 24) := h 24 (by decide)
theorem mR.ins {f : Nat → Int32} {A : gA} (h : mR f A) : f 25 = nI (A 25) := h 25 (by decide)
theorem mR.hr {f : Nat → Int32} {A : gA} (h : mR f A) : f 26 = nI (A 26) := h 26 (by decide)
theorem mR.ev {f : Nat → Int32} {A : gA} (h : mR f A) : f 27 = nI (A 27) := h 27 (by decide)
section
variable {d : Nat} {σ : gn_Mem} {Q : Option Value → gn_Mem → Prop} {D : gD} {A : gA}
theorem mw_in {v l h : Int32} (hQ : Q (some (.int (gb (¬ v < l ∧ ¬ h < v)))) σ) : gn_W d 130 0 [.int v, .int l, .int h] [] σ Q := by
  (repeat (first | refine gx_run 999 80 rfl ?_ | refine gx_goto rfl rfl ?_))
  first | refine gw_if rfl (fun h1 => ?_) (fun h1 => ?_) | refine gw_icmp rfl (fun h1 => ?_) (fun h1 => ?_)
  · (repeat (first | refine gx_run 999 80 rfl ?_ | refine gx_goto rfl rfl ?_))
    refine gw_zret rfl (Or.inl rfl) ?_
    rw [gb_f (fun q => q.1 h1)] at hQ; exact hQ
  · (repeat (first | refine gx_run 999 80 rfl ?_ | refine gx_goto rfl rfl ?_))
    first | refine gw_if rfl (fun h2 => ?_) (fun h2 => ?_) | refine gw_icmp rfl (fun h2 => ?_) (fun h2 => ?_)
    · (repeat (first | refine gx_run 999 80 rfl ?_ | refine gx_goto rfl rfl ?_))
      refine gw_zret rfl (Or.inl rfl) ?_
      rw [gb_f (fun q => q.2 h2)] at hQ; exact hQ
    · (repeat (first | refine gx_run 999 80 rfl ?_ | refine gx_goto rfl rfl ?_))
      refine gw_zret rfl (Or.inr rfl) ?_
      rw [gb_t ⟨h1, h2⟩] at hQ; exact hQ
theorem mw_has {s t : Nat} (hs : s < 256) (ht : t < 8) (hQ : Q (some (.int (gb (s.testBit t = true)))) σ) : gn_W d 131 0 [.int (nI s), .int (nI t)] [] σ Q := by
  (repeat (first | refine gx_run 999 80 rfl ?_ | refine gx_goto rfl rfl ?_))
  have hb := bit_1 hs ht
  by_cases h : s.testBit t = true
  · first | refine gx_iff rfl (fun q => q (hb.mpr h)) ?_ | refine gx_icf rfl (fun q => q (hb.mpr h)) ?_
    (repeat (first | refine gx_run 999 80 rfl ?_ | refine gx_goto rfl rfl ?_))
    refine gw_zret rfl (Or.inr rfl) ?_
    rw [gb_t h] at hQ; exact hQ
  · first | refine gx_ift rfl (fun q => h (hb.mp q)) ?_ | refine gx_ict rfl (fun q => h (hb.mp q)) ?_
    (repeat (first | refine gx_run 999 80 rfl ?_ | refine gx_goto rfl rfl ?_))
    refine gw_zret rfl (Or.inl rfl) ?_
    rw [gb_f h] at hQ; exact hQ
theorem mw_isGuest (hG : σ 44 8 = nI (dG D)) {g : Int32} (hQ : Q (some (.int (gb (¬ g < 0 ∧ ¬ nI (dG D) - 1 < g)))) σ) : gn_W (d + 1) 132 0 [.ref 44, .int g] [] σ Q := by
  (repeat (first | refine gx_run 999 80 rfl ?_ | refine gx_goto rfl rfl ?_))
  rw [hG]
  refine gw_calls rfl rfl rfl ?_
  refine mw_in ?_
  (repeat (first | refine gx_run 999 80 rfl ?_ | refine gx_goto rfl rfl ?_))
  refine gw_zret rfl ?_ hQ
  unfold gb
  split
  · exact Or.inr rfl
  · exact Or.inl rfl
theorem mw_isHost (hH : σ 44 9 = nI (dH D)) {g : Int32} (hQ : Q (some (.int (gb (¬ g < 0 ∧ ¬ nI (dH D) - 1 < g)))) σ) : gn_W (d + 1) 133 0 [.ref 44, .int g] [] σ Q := by
  (repeat (first | refine gx_run 999 80 rfl ?_ | refine gx_goto rfl rfl ?_))
  rw [hH]
  refine gw_calls rfl rfl rfl ?_
  refine mw_in ?_
  (repeat (first | refine gx_run 999 80 rfl ?_ | refine gx_goto rfl rfl ?_))
  refine gw_zret rfl ?_ hQ
  unfold gb
  split
  · exact Or.inr rfl
  · exact Or.inl rfl
theorem mw_topicOf (hM : gM σ D) {g k : Nat} (hg : g < dG D) (hk : k < dC D g) (hQ : Q (some (.int (nI (dT D g k)))) σ) : gn_W d 148 0 [.ref 44, .int (nI g), .int (nI k)] [] σ Q := by
  have hle := hM.1.1
  have hc := hM.1.2.2.2.2.1 g hg
  have hv := hM.1.2.2.2.2.2.1 g k hg hk
  (repeat (first | refine gx_run 999 80 rfl ?_ | refine gx_goto rfl rfl ?_))
  refine gx_ld (6 * g + k) (ix6' g k) (by omega) (hM.2.2.2.2.2.2.1 g k hg hk) rfl rfl rfl ?_
  (repeat (first | refine gx_run 999 80 rfl ?_ | refine gx_goto rfl rfl ?_))
  refine gw_idiv rfl (by decide) ?_
  refine gx_iret rfl rfl ?_
  rw [c_div _ hv.1 _ hv.2]
  exact hQ
theorem mw_boldOf (hM : gM σ D) {g k : Nat} (hg : g < dG D) (hk : k < dC D g) (hQ : Q (some (.int (nI (dB D g k)))) σ) : gn_W d 149 0 [.ref 44, .int (nI g), .int (nI k)] [] σ Q := by
  have hle := hM.1.1
  have hc := hM.1.2.2.2.2.1 g hg
  have hv := hM.1.2.2.2.2.2.1 g k hg hk
  (repeat (first | refine gx_run 999 80 rfl ?_ | refine gx_goto rfl rfl ?_))
  refine gx_ld (6 * g + k) (ix6' g k) (by omega) (hM.2.2.2.2.2.2.1 g k hg hk) rfl rfl rfl ?_
  (repeat (first | refine gx_run 999 80 rfl ?_ | refine gx_goto rfl rfl ?_))
  refine gw_irem rfl (by decide) ?_
  refine gx_iret rfl rfl ?_
  rw [c_rem _ hv.1 _ hv.2]
  exact hQ
theorem mj0 : ∀ p, p ≤ 9 → ∀ b, b ≤ 9 → nI p + 9 - nI b = nI (9 - b + p) := by decide
theorem mj2 : ∀ b, b ≤ 9 → ¬ nI b ≤ 3 → nI b - 3 = nI (b - 3) := by decide
theorem mj3 : ∀ b, b ≤ 9 → nI b ≤ 3 → b - 3 = 0 := by decide
theorem mw_plainJoy (hM : gM σ D) {g h k : Nat} (hg : g < dG D) (hh : h < dH D) (hk : k < dC D g) (hQ : Q (some (.int (nI (jP D g h k)))) σ) : gn_W (d + 1) 150 0 [.ref 44, .int (nI g), .int (nI h), .int (nI k)] [] σ Q := by
  have hle := hM.1.1
  have hhe := hM.1.2.1
  have hc := hM.1.2.2.2.2.1 g hg
  have hv := hM.1.2.2.2.2.2.1 g k hg hk
  have hy := hM.1.2.2.2.2.2.2 h hh
  have hz := hM.2.2.2.2.2.2.2 h hh
  (repeat (first | refine gx_run 999 80 rfl ?_ | refine gx_goto rfl rfl ?_))
  refine gx_call rfl rfl rfl ?_
  refine mw_boldOf hM hg hk ?_
  (repeat (first | refine gx_run 999 80 rfl ?_ | refine gx_goto rfl rfl ?_))
  rw [hM.2.2.1]
  refine gx_call rfl rfl rfl ?_
  refine mw_topicOf hM hg hk ?_
  (repeat (first | refine gx_run 999 80 rfl ?_ | refine gx_goto rfl rfl ?_))
  refine gw_calls rfl rfl rfl ?_
  refine mw_has hM.1.2.2.2.1 hv.1 ?_
  have key : ∀ (f : Bool) (p : Nat), (dF D).testBit (dT D g k) = f → p = (if f then dP D g else 0) → gn_W (d + 1) 150 40 [.ref 44, .int (nI g), .int (nI h), .int (nI k), .int (nI (dB D g k)), .int (gb (f = true)), .int (nI p)] [] σ Q := by
    intro f p hf hp
    have hp9 : p ≤ 9 := by rw [hp]; split <;> omega
    unfold jP at hQ
    rw [hf] at hQ
    rw [← hp] at hQ
    unfold jK at hQ
    (repeat (first | refine gx_run 999 80 rfl ?_ | refine gx_goto rfl rfl ?_))
    refine gx_ld h rfl (by omega) hz.1 rfl rfl rfl ?_
    generalize dK D h = kd at hQ hy ⊢
    generalize dB D g k = bd at hQ hv ⊢
    rcases (show kd = 0 ∨ kd = 1 ∨ kd = 2 ∨ kd = 3 by omega) with rfl | rfl | rfl | rfl
    · refine gw_tsw rfl 72 (by decide) ?_
      (repeat (first | refine gx_run 999 80 rfl ?_ | refine gx_goto rfl rfl ?_))
      refine gx_iret rfl rfl ?_
      rw [nI_add, Nat.add_comm]
      exact hQ
    · refine gw_tsw rfl 78 (by decide) ?_
      (repeat (first | refine gx_run 999 80 rfl ?_ | refine gx_goto rfl rfl ?_))
      refine gw_idiv rfl (by decide) ?_
      (repeat (first | refine gx_run 999 80 rfl ?_ | refine gx_goto rfl rfl ?_))
      refine gx_iret rfl rfl ?_
      rw [jk_half bd hv.2, nI_add, Nat.add_comm]
      exact hQ
    · refine gw_tsw rfl 86 (by decide) ?_
      (repeat (first | refine gx_run 999 80 rfl ?_ | refine gx_goto rfl rfl ?_))
      cases f with
      | true =>
        first | refine gx_ift rfl (by dsimp only [gn_cmp] <;> decide) ?_ | refine gx_ict rfl (by dsimp only [gn_cmp] <;> decide) ?_
        (repeat (first | refine gx_run 999 80 rfl ?_ | refine gx_goto rfl rfl ?_))
        first | refine gw_if rfl (fun q => ?_) (fun q => ?_) | refine gw_icmp rfl (fun q => ?_) (fun q => ?_)
        · (repeat (first | refine gx_run 999 80 rfl ?_ | refine gx_goto rfl rfl ?_))
          refine gx_iret rfl rfl ?_
          have e := mj3 bd hv.2 q
          have hQ2 : Q (some (.int (nI (bd - 3 + p)))) σ := hQ
          rw [e, Nat.zero_add] at hQ2
          rw [show (0 : Int32) = nI 0 from rfl, nI_add, Nat.add_zero]
          exact hQ2
        · (repeat (first | refine gx_run 999 80 rfl ?_ | refine gx_goto rfl rfl ?_))
          refine gx_iret rfl rfl ?_
          rw [mj2 bd hv.2 q, nI_add, Nat.add_comm]
          exact hQ
      | false =>
        first | refine gx_iff rfl (by dsimp only [gn_cmp] <;> decide) ?_ | refine gx_icf rfl (by dsimp only [gn_cmp] <;> decide) ?_
        (repeat (first | refine gx_run 999 80 rfl ?_ | refine gx_goto rfl rfl ?_))
        refine gx_iret rfl rfl ?_
        rw [jk_more bd hv.2, nI_add, Nat.add_comm]
        exact hQ
    · refine gw_tsw rfl 116 (by decide) ?_
      (repeat (first | refine gx_run 999 80 rfl ?_ | refine gx_goto rfl rfl ?_))
      refine gx_iret rfl rfl ?_
      rw [mj0 p hp9 bd hv.2]
      exact hQ
  (repeat (first | refine gx_run 999 80 rfl ?_ | refine gx_goto rfl rfl ?_))
  cases hf : (dF D).testBit (dT D g k) with
  | true =>
    first | refine gx_iff rfl (by dsimp only [gn_cmp] <;> decide) ?_ | refine gx_icf rfl (by dsimp only [gn_cmp] <;> decide) ?_
    (repeat (first | refine gx_run 999 80 rfl ?_ | refine gx_goto rfl rfl ?_))
    refine gx_ld g rfl (by omega) (hM.2.2.2.2.2.1 g hg).1 rfl rfl rfl ?_
    refine gw_goto rfl ?_
    (refine gw_run 40 80 rfl ?_)
    exact key true (dP D g) hf rfl
  | false =>
    first | refine gx_ift rfl (by dsimp only [gn_cmp] <;> decide) ?_ | refine gx_ict rfl (by dsimp only [gn_cmp] <;> decide) ?_
    (refine gw_run 40 80 rfl ?_)
    exact key false 0 hf rfl
theorem mw_joyOf (hM : gM σ D) {g h k : Nat} (hg : g < dG D) (hh : h < dH D) (hk : k < dC D g) (hQ : Q (some (.int (nI (jP D g h k + k)))) σ) : gn_W (d + 2) 151 0 [.ref 44, .int (nI g), .int (nI h), .int (nI k)] [] σ Q := by
  (repeat (first | refine gx_run 999 80 rfl ?_ | refine gx_goto rfl rfl ?_))
  refine gx_call rfl rfl rfl ?_
  refine mw_plainJoy hM hg hh hk ?_
  (repeat (first | refine gx_run 999 80 rfl ?_ | refine gx_goto rfl rfl ?_))
  refine gx_iret rfl rfl ?_
  rw [nI_add]
  exact hQ
theorem mw_allTold (hM : gM σ D) (hX : mR (σ 45) A) (hA : wA2 D A) (hQ : Q (some (.int (sT D A))) σ) : gn_W d 152 0 [.ref 44] [] σ Q := by
  have hle := hM.1.1
  have hhe := hM.1.2.1
  (refine gw_run 4 80 rfl ?_)
  refine gw_for (dG D) (fun g s => if A (6 + g) = 0 then s else s ||| bt g) (fun _ _ => True) (fun i y => [.ref 44, .int y, .int (nI i)]) (fun _ => σ) 0 trivial (fun _ _ _ _ => trivial) ?_ ?_
  · intro i y hi _ hn
    have ha := hA.1 i hi
    (repeat (first | refine gx_run 999 80 rfl ?_ | refine gx_goto rfl rfl ?_))
    rw [hM.2.2.2.1]
    first | refine gx_iff rfl (nI_ge hi (by omega)) ?_ | refine gx_icf rfl (nI_ge hi (by omega)) ?_
    (repeat (first | refine gx_run 999 80 rfl ?_ | refine gx_goto rfl rfl ?_))
    refine gx_ld (6 + i) (nI_add 6 i) (by omega) (hX.by (by omega)) rfl rfl rfl ?_
    (repeat (first | refine gx_run 999 80 rfl ?_ | refine gx_goto rfl rfl ?_))
    by_cases hb : A (6 + i) = 0
    · simp only [if_pos hb] at hn
      first | refine gx_iff rfl (fun q => q ((e1_ne (by omega)).mpr hb)) ?_ | refine gx_icf rfl (fun q => q ((e1_ne (by omega)).mpr hb)) ?_
      (repeat (first | refine gx_run 999 80 rfl ?_ | refine gx_goto rfl rfl ?_))
      refine gw_goto rfl ?_
      rw [nI_1, Int32.or_zero]
      exact hn
    · simp only [if_neg hb] at hn
      first | refine gx_ift rfl (fun q => hb ((e1_ne (by omega)).mp q)) ?_ | refine gx_ict rfl (fun q => hb ((e1_ne (by omega)).mp q)) ?_
      (repeat (first | refine gx_run 999 80 rfl ?_ | refine gx_goto rfl rfl ?_))
      refine gw_goto rfl ?_
      rw [nI_1]
      exact hn
  · intro _
    (repeat (first | refine gx_run 999 80 rfl ?_ | refine gx_goto rfl rfl ?_))
    rw [hM.2.2.2.1]
    first | refine gx_ift rfl (nI_le (Nat.le_refl _) (by omega)) ?_ | refine gx_ict rfl (nI_le (Nat.le_refl _) (by omega)) ?_
    (repeat (first | refine gx_run 999 80 rfl ?_ | refine gx_goto rfl rfl ?_))
    refine gx_iret rfl rfl ?_
    exact hQ
theorem mw_wrongAt (hM : gM σ D) {g : Nat} (hg : g < dG D) (hQ : Q (some (.int (eo (wA D g)))) σ) : gn_W (d + 1) 153 0 [.ref 44, .int (nI g)] [] σ Q := by
  have hle := hM.1.1
  have hc := hM.1.2.2.2.2.1 g hg
  (refine gw_run 2 80 rfl ?_)
  refine gw_forE (dC D g) (fun k => !(dF D).testBit (dT D g k)) (fun i => [.ref 44, .int (nI g), .int (nI i)]) ?_ ?_ ?_
  · intro i hi hp hn
    have hv := hM.1.2.2.2.2.2.1 g i hg hi
    (repeat (first | refine gx_run 999 80 rfl ?_ | refine gx_goto rfl rfl ?_))
    refine gx_ld g rfl (by omega) (hM.2.2.2.2.2.1 g hg).2 rfl rfl rfl ?_
    first | refine gx_iff rfl (nI_ge hi (by omega)) ?_ | refine gx_icf rfl (nI_ge hi (by omega)) ?_
    (repeat (first | refine gx_run 999 80 rfl ?_ | refine gx_goto rfl rfl ?_))
    rw [hM.2.2.1]
    refine gx_call rfl rfl rfl ?_
    refine mw_topicOf hM hg hi ?_
    (repeat (first | refine gx_run 999 80 rfl ?_ | refine gx_goto rfl rfl ?_))
    refine gw_calls rfl rfl rfl ?_
    refine mw_has hM.1.2.2.2.1 hv.1 ?_
    rw [gb_t (by simpa using hp)]
    (repeat (first | refine gx_run 999 80 rfl ?_ | refine gx_goto rfl rfl ?_))
    first | refine gx_ift rfl (by dsimp only [gn_cmp] <;> decide) ?_ | refine gx_ict rfl (by dsimp only [gn_cmp] <;> decide) ?_
    (repeat (first | refine gx_run 999 80 rfl ?_ | refine gx_goto rfl rfl ?_))
    refine gw_goto rfl ?_
    rw [nI_1]
    exact hn
  · intro i hi hp he
    have hv := hM.1.2.2.2.2.2.1 g i hg hi
    (repeat (first | refine gx_run 999 80 rfl ?_ | refine gx_goto rfl rfl ?_))
    refine gx_ld g rfl (by omega) (hM.2.2.2.2.2.1 g hg).2 rfl rfl rfl ?_
    first | refine gx_iff rfl (nI_ge hi (by omega)) ?_ | refine gx_icf rfl (nI_ge hi (by omega)) ?_
    (repeat (first | refine gx_run 999 80 rfl ?_ | refine gx_goto rfl rfl ?_))
    rw [hM.2.2.1]
    refine gx_call rfl rfl rfl ?_
    refine mw_topicOf hM hg hi ?_
    (repeat (first | refine gx_run 999 80 rfl ?_ | refine gx_goto rfl rfl ?_))
    refine gw_calls rfl rfl rfl ?_
    refine mw_has hM.1.2.2.2.1 hv.1 ?_
    rw [gb_f (by simpa using hp)]
    (repeat (first | refine gx_run 999 80 rfl ?_ | refine gx_goto rfl rfl ?_))
    first | refine gx_iff rfl (by dsimp only [gn_cmp] <;> decide) ?_ | refine gx_icf rfl (by dsimp only [gn_cmp] <;> decide) ?_
    (repeat (first | refine gx_run 999 80 rfl ?_ | refine gx_goto rfl rfl ?_))
    refine gx_iret rfl rfl ?_
    unfold wA at hQ
    rw [he] at hQ
    exact hQ
  · intro he
    (repeat (first | refine gx_run 999 80 rfl ?_ | refine gx_goto rfl rfl ?_))
    refine gx_ld g rfl (by omega) (hM.2.2.2.2.2.1 g hg).2 rfl rfl rfl ?_
    first | refine gx_ift rfl (nI_le (Nat.le_refl _) (by omega)) ?_ | refine gx_ict rfl (nI_le (Nat.le_refl _) (by omega)) ?_
    (repeat (first | refine gx_run 999 80 rfl ?_ | refine gx_goto rfl rfl ?_))
    refine gx_iret rfl rfl ?_
    unfold wA at hQ
    rw [he] at hQ
    exact hQ
theorem mw_rightOnes (hM : gM σ D) (hQ : Q (some (.int (sR D))) σ) : gn_W (d + 2) 154 0 [.ref 44] [] σ Q := by
  have hle := hM.1.1
  (refine gw_run 4 80 rfl ?_)
  refine gw_for (dG D) (fun g s => if wA D g = none then s ||| bt g else s) (fun _ _ => True) (fun i y => [.ref 44, .int y, .int (nI i)]) (fun _ => σ) 0 trivial (fun _ _ _ _ => trivial) ?_ ?_
  · intro i y hi _ hn
    (repeat (first | refine gx_run 999 80 rfl ?_ | refine gx_goto rfl rfl ?_))
    rw [hM.2.2.2.1]
    first | refine gx_iff rfl (nI_ge hi (by omega)) ?_ | refine gx_icf rfl (nI_ge hi (by omega)) ?_
    (repeat (first | refine gx_run 999 80 rfl ?_ | refine gx_goto rfl rfl ?_))
    refine gx_call rfl rfl rfl ?_
    refine mw_wrongAt hM hi ?_
    (repeat (first | refine gx_run 999 80 rfl ?_ | refine gx_goto rfl rfl ?_))
    by_cases hw : wA D i = none
    · simp only [if_pos hw] at hn
      first | refine gx_iff rfl (fun q => q ((wA_none hM.1 hi).mpr hw)) ?_ | refine gx_icf rfl (fun q => q ((wA_none hM.1 hi).mpr hw)) ?_
      (repeat (first | refine gx_run 999 80 rfl ?_ | refine gx_goto rfl rfl ?_))
      refine gw_goto rfl ?_
      rw [nI_1]
      exact hn
    · simp only [if_neg hw] at hn
      first | refine gx_ift rfl (fun q => hw ((wA_none hM.1 hi).mp q)) ?_ | refine gx_ict rfl (fun q => hw ((wA_none hM.1 hi).mp q)) ?_
      (repeat (first | refine gx_run 999 80 rfl ?_ | refine gx_goto rfl rfl ?_))
      refine gw_goto rfl ?_
      rw [nI_1, Int32.or_zero]
      exact hn
  · intro _
    (repeat (first | refine gx_run 999 80 rfl ?_ | refine gx_goto rfl rfl ?_))
    rw [hM.2.2.2.1]
    first | refine gx_ift rfl (nI_le (Nat.le_refl _) (by omega)) ?_ | refine gx_ict rfl (nI_le (Nat.le_refl _) (by omega)) ?_
    (repeat (first | refine gx_run 999 80 rfl ?_ | refine gx_goto rfl rfl ?_))
    refine gx_iret rfl rfl ?_
    exact hQ
theorem dSn_gf {D : gD} (hW : gW D) {g n : Nat} (hg : g < dG D) (hn : n ≤ dC D g) : gf (fun k s => s ||| (1 <<< (nI (dT D g k) &&& 31))) n 0 = nI (dSn D g n) := by
  induction n with
  | zero => rfl
  | succ n ih =>
    show gf _ n 0 ||| _ = _
    rw [ih (by omega), or_bit _ (dSn_lt hW hg (by omega)) _ (hW.2.2.2.2.2.1 g n hg (by omega)).1]
    rfl
theorem mw_topicsOf (hM : gM σ D) {g : Nat} (hg : g < dG D) (hQ : Q (some (.int (nI (dS D g)))) σ) : gn_W (d + 1) 155 0 [.ref 44, .int (nI g)] [] σ Q := by
  have hle := hM.1.1
  have hc := hM.1.2.2.2.2.1 g hg
  (refine gw_run 4 80 rfl ?_)
  refine gw_for (dC D g) (fun k s => s ||| (1 <<< (nI (dT D g k) &&& 31))) (fun _ _ => True) (fun i y => [.ref 44, .int (nI g), .int y, .int (nI i)]) (fun _ => σ) 0 trivial (fun _ _ _ _ => trivial) ?_ ?_
  · intro i y hi _ hn
    (repeat (first | refine gx_run 999 80 rfl ?_ | refine gx_goto rfl rfl ?_))
    refine gx_ld g rfl (by omega) (hM.2.2.2.2.2.1 g hg).2 rfl rfl rfl ?_
    first | refine gx_iff rfl (nI_ge hi (by omega)) ?_ | refine gx_icf rfl (nI_ge hi (by omega)) ?_
    (repeat (first | refine gx_run 999 80 rfl ?_ | refine gx_goto rfl rfl ?_))
    refine gx_call rfl rfl rfl ?_
    refine mw_topicOf hM hg hi ?_
    (repeat (first | refine gx_run 999 80 rfl ?_ | refine gx_goto rfl rfl ?_))
    refine gw_goto rfl ?_
    rw [nI_1]
    exact hn
  · intro _
    (repeat (first | refine gx_run 999 80 rfl ?_ | refine gx_goto rfl rfl ?_))
    refine gx_ld g rfl (by omega) (hM.2.2.2.2.2.1 g hg).2 rfl rfl rfl ?_
    first | refine gx_ift rfl (nI_le (Nat.le_refl _) (by omega)) ?_ | refine gx_ict rfl (nI_le (Nat.le_refl _) (by omega)) ?_
    (repeat (first | refine gx_run 999 80 rfl ?_ | refine gx_goto rfl rfl ?_))
    refine gx_iret rfl rfl ?_
    rw [dSn_gf hM.1 hg (Nat.le_refl _)]
    exact hQ
theorem mw_nobodys (hM : gM σ D) (hQ : Q (some (.int (sN D))) σ) : gn_W (d + 2) 156 0 [.ref 44] [] σ Q := by
  have hle := hM.1.1
  (refine gw_run 6 80 rfl ?_)
  refine gw_for (dG D) (fun g s => s &&& (nI (dS D g) ^^^ -1)) (fun _ _ => True) (fun i y => [.ref 44, .int y, .int (nI i)]) (fun _ => σ) 255 trivial (fun _ _ _ _ => trivial) ?_ ?_
  · intro i y hi _ hn
    (repeat (first | refine gx_run 999 80 rfl ?_ | refine gx_goto rfl rfl ?_))
    rw [hM.2.2.2.1]
    first | refine gx_iff rfl (nI_ge hi (by omega)) ?_ | refine gx_icf rfl (nI_ge hi (by omega)) ?_
    (repeat (first | refine gx_run 999 80 rfl ?_ | refine gx_goto rfl rfl ?_))
    refine gx_call rfl rfl rfl ?_
    refine mw_topicsOf hM hi ?_
    (repeat (first | refine gx_run 999 80 rfl ?_ | refine gx_goto rfl rfl ?_))
    refine gw_goto rfl ?_
    rw [nI_1]
    exact hn
  · intro _
    (repeat (first | refine gx_run 999 80 rfl ?_ | refine gx_goto rfl rfl ?_))
    rw [hM.2.2.2.1]
    first | refine gx_ift rfl (nI_le (Nat.le_refl _) (by omega)) ?_ | refine gx_ict rfl (nI_le (Nat.le_refl _) (by omega)) ?_
    (repeat (first | refine gx_run 999 80 rfl ?_ | refine gx_goto rfl rfl ?_))
    refine gx_iret rfl rfl ?_
    exact hQ
/-- the reference's inner loop of MEANLY -/
theorem mean_gf {D : gD} (hW : gW D) {g h a n : Nat} (hg : g < dG D) (hh : h < dH D) (ha : a < 1000) (hn : n ≤ dC D g) (s : Int32) : gf (fun k s => s ||| (if nI a < nI (jP D g h k + k) then bt g else 0)) n s = if nI a < nI (mxJ D g h 0 n) then s ||| bt g else s := by
  have hc := (hW.2.2.2.2.1 g hg).2.2
  induction n with
  | zero =>
    have : ¬ nI a < nI (mxJ D g h 0 0) := nI_nlt (Nat.zero_le _) (by omega)
    rw [if_neg this]
    rfl
  | succ n ih =>
    show gf _ n s ||| _ = _
    rw [ih (by omega)]
    have hb := hW.jP hg hh (k := n) (by omega)
    have hm := hW.mxJ (f := 0) (n := n) hg hh (by omega)
    have hm2 : mxJ D g h 0 (n + 1) = max (mxJ D g h 0 n) (jP D g h n + n) := by simp [mxJ]
    rw [hm2]
    by_cases h1 : a < mxJ D g h 0 n
    · rw [if_pos (nI_lt h1 (by omega)), if_pos (nI_lt (show a < max (mxJ D g h 0 n) (jP D g h n + n) by omega) (by omega))]
      by_cases h2 : a < jP D g h n + n
      · rw [if_pos (nI_lt h2 (by omega)), Int32.or_assoc, Int32.or_self]
      · rw [if_neg (nI_nlt (by omega) (by omega)), Int32.or_zero]
    · rw [if_neg (nI_nlt (show mxJ D g h 0 n ≤ a by omega) (by omega))]
      by_cases h2 : a < jP D g h n + n
      · rw [if_pos (nI_lt h2 (by omega)), if_pos (nI_lt (show a < max (mxJ D g h 0 n) (jP D g h n + n) by omega) (by omega))]
      · rw [if_neg (nI_nlt (by omega) (by omega)), if_neg (nI_nlt (show max (mxJ D g h 0 n) (jP D g h n + n) ≤ a by omega) (by omega)), Int32.or_zero]
theorem mw_meanly (hM : gM σ D) (hX : mR (σ 45) A) (hA : wA2 D A) (hQ : Q (some (.int (sM D A))) σ) : gn_W (d + 3) 157 0 [.ref 44] [] σ Q := by
  have hle := hM.1.1
  have hhe := hM.1.2.1
  (refine gw_run 4 80 rfl ?_)
  refine gw_for (dG D) (fun g s => if jT D A g < jM D A g then s ||| bt g else s) (fun _ _ => True) (fun i y => [.ref 44, .int y, .int (nI i)]) (fun _ => σ) 0 trivial (fun _ _ _ _ => trivial) ?_ ?_
  · intro i y hi _ hn
    have ha := hA.1 i hi
    have hc := hM.1.2.2.2.2.1 i hi
    (repeat (first | refine gx_run 999 80 rfl ?_ | refine gx_goto rfl rfl ?_))
    rw [hM.2.2.2.1]
    first | refine gx_iff rfl (nI_ge hi (by omega)) ?_ | refine gx_icf rfl (nI_ge hi (by omega)) ?_
    (repeat (first | refine gx_run 999 80 rfl ?_ | refine gx_goto rfl rfl ?_))
    refine gx_ld (6 + i) (nI_add 6 i) (by omega) (hX.by (by omega)) rfl rfl rfl ?_
    (refine gw_run 25 80 rfl ?_)
    by_cases hb : A (6 + i) = 0
    · have e1 : jT D A i = -1 := if_pos hb
      have e2 : jM D A i = -1 := if_pos hb
      rw [e1, e2, if_neg (by decide)] at hn
      (repeat (first | refine gx_run 999 80 rfl ?_ | refine gx_goto rfl rfl ?_))
      refine gx_ld i rfl (by omega) (hM.2.2.2.2.2.1 i hi).2 rfl rfl rfl ?_
      first | refine gx_iff rfl (nI_ge (a := 0) (by omega) (by omega)) ?_ | refine gx_icf rfl (nI_ge (a := 0) (by omega) (by omega)) ?_
      (repeat (first | refine gx_run 999 80 rfl ?_ | refine gx_goto rfl rfl ?_))
      first | refine gx_ift rfl ((e1_ne (by omega)).mpr hb) ?_ | refine gx_ict rfl ((e1_ne (by omega)).mpr hb) ?_
      (repeat (first | refine gx_run 999 80 rfl ?_ | refine gx_goto rfl rfl ?_))
      refine gw_goto rfl ?_
      rw [nI_1]
      exact gx_drop [_, _, _] [_, _] (by rfl) hn
    · have hb2 : A (12 + i) ≠ 0 := fun q => hb (ha.2.2.1.mpr q)
      have e1 : jT D A i = nI (jP D i (A (6 + i) - 1) (A (12 + i) - 1) + (A (12 + i) - 1)) := if_neg hb
      have e2 : jM D A i = nI (mxJ D i (A (6 + i) - 1) 0 (dC D i)) := if_neg hb
      have hj := hM.1.jP hi (h := A (6 + i) - 1) (k := A (12 + i) - 1) (by omega) (by omega)
      rw [e1, e2] at hn
      rw [e1_pos hb]
      rw [← mean_gf hM.1 hi (by omega) (by omega) (Nat.le_refl _)] at hn
      refine gw_for (dC D i) (fun k s => s ||| (if nI (jP D i (A (6 + i) - 1) (A (12 + i) - 1) + (A (12 + i) - 1)) < nI (jP D i (A (6 + i) - 1) k + k) then bt i else 0)) (fun _ _ => True) (fun k y => [.ref 44, .int y, .int (nI i), .int (nI (A (6 + i) - 1)), .int (nI k)]) (fun _ => σ) y trivial (fun _ _ _ _ => trivial) ?_ ?_
      · intro k z hk _ hn2
        (repeat (first | refine gx_run 999 80 rfl ?_ | refine gx_goto rfl rfl ?_))
        refine gx_ld i rfl (by omega) (hM.2.2.2.2.2.1 i hi).2 rfl rfl rfl ?_
        first | refine gx_iff rfl (nI_ge hk (by omega)) ?_ | refine gx_icf rfl (nI_ge hk (by omega)) ?_
        (repeat (first | refine gx_run 999 80 rfl ?_ | refine gx_goto rfl rfl ?_))
        first | refine gx_iff rfl (nI_ne1 (by omega)) ?_ | refine gx_icf rfl (nI_ne1 (by omega)) ?_
        (repeat (first | refine gx_run 999 80 rfl ?_ | refine gx_goto rfl rfl ?_))
        refine gx_call rfl rfl rfl ?_
        refine mw_joyOf hM hi (by omega) hk ?_
        (repeat (first | refine gx_run 999 80 rfl ?_ | refine gx_goto rfl rfl ?_))
        refine gx_ld (12 + i) (nI_add 12 i) (by omega) (hX.at (by omega)) rfl rfl rfl ?_
        rw [e1_pos hb2]
        refine gx_call rfl rfl rfl ?_
        refine mw_joyOf hM hi (by omega) (by omega) ?_
        (repeat (first | refine gx_run 999 80 rfl ?_ | refine gx_goto rfl rfl ?_))
        by_cases hl : nI (jP D i (A (6 + i) - 1) (A (12 + i) - 1) + (A (12 + i) - 1)) < nI (jP D i (A (6 + i) - 1) k + k)
        · rw [if_pos hl] at hn2
          first | refine gx_iff rfl (fun q => absurd hl (Int32.not_lt.mpr q)) ?_ | refine gx_icf rfl (fun q => absurd hl (Int32.not_lt.mpr q)) ?_
          (repeat (first | refine gx_run 999 80 rfl ?_ | refine gx_goto rfl rfl ?_))
          refine gw_goto rfl ?_
          rw [nI_1]
          exact hn2
        · rw [if_neg hl] at hn2
          first | refine gx_ift rfl (Int32.not_lt.mp hl) ?_ | refine gx_ict rfl (Int32.not_lt.mp hl) ?_
          (repeat (first | refine gx_run 999 80 rfl ?_ | refine gx_goto rfl rfl ?_))
          refine gw_goto rfl ?_
          rw [nI_1]
          exact hn2
      · intro _
        (repeat (first | refine gx_run 999 80 rfl ?_ | refine gx_goto rfl rfl ?_))
        refine gx_ld i rfl (by omega) (hM.2.2.2.2.2.1 i hi).2 rfl rfl rfl ?_
        first | refine gx_ift rfl (nI_le (Nat.le_refl _) (by omega)) ?_ | refine gx_ict rfl (nI_le (Nat.le_refl _) (by omega)) ?_
        (repeat (first | refine gx_run 999 80 rfl ?_ | refine gx_goto rfl rfl ?_))
        refine gw_goto rfl ?_
        rw [nI_1]
        exact gx_drop [_, _, _] [_, _] (by rfl) hn
  · intro _
    (repeat (first | refine gx_run 999 80 rfl ?_ | refine gx_goto rfl rfl ?_))
    rw [hM.2.2.2.1]
    first | refine gx_ift rfl (nI_le (Nat.le_refl _) (by omega)) ?_ | refine gx_ict rfl (nI_le (Nat.le_refl _) (by omega)) ?_
    (repeat (first | refine gx_run 999 80 rfl ?_ | refine gx_goto rfl rfl ?_))
    refine gx_iret rfl rfl ?_
    exact hQ
/-- the reference's LEAST PLEASED: it begins at 9999 -/
def sLm (D : gD) (A : gA) (g : Nat) (y : Int32 × Int32) : Int32 × Int32 := if A (6 + g) = 0 then y else (if jT D A g < y.2 then (nI g, jT D A g) else y)
theorem sL_eq {D : gD} {A : gA} (hW : gW D) (hA : wA2 D A) {n : Nat} (hn : n ≤ dG D) : (gf (sLm D A) n (-1, 9999)).1 = (gf (fun g y => if ¬ jT D A g = -1 ∧ (y.1 = -1 ∨ jT D A g < y.2) then (nI g, jT D A g) else y) n (-1, 0)).1 ∧ ((gf (sLm D A) n (-1, 9999)).1 = -1 ∧ (gf (sLm D A) n (-1, 9999)).2 = 9999 ∨ ¬ (gf (sLm D A) n (-1, 9999)).1 = -1 ∧ (gf (sLm D A) n (-1, 9999)).2 = (gf (fun g y => if ¬ jT D A g = -1 ∧ (y.1 = -1 ∨ jT D A g < y.2) then (nI g, jT D A g) else y) n (-1, 0)).2) := by
  have hle := hW.1
  have hhe := hW.2.1
  induction n with
  | zero => exact ⟨rfl, Or.inl ⟨rfl, rfl⟩⟩
  | succ n ih =>
    have h1 := ih (by omega)
    have ha := hA.1 n (by omega)
    have hc := hW.2.2.2.2.1 n (by omega)
    show (sLm D A n (gf (sLm D A) n (-1, 9999))).1 = (if ¬ jT D A n = -1 ∧ ((gf (fun g y => if ¬ jT D A g = -1 ∧ (y.1 = -1 ∨ jT D A g < y.2) then (nI g, jT D A g) else y) n (-1, 0)).1 = -1 ∨ jT D A n < (gf (fun g y => if ¬ jT D A g = -1 ∧ (y.1 = -1 ∨ jT D A g < y.2) then (nI g, jT D A g) else y) n (-1, 0)).2) then (nI n, jT D A n) else gf (fun g y => if ¬ jT D A g = -1 ∧ (y.1 = -1 ∨ jT D A g < y.2) then (nI g, jT D A g) else y) n (-1, 0)).1 ∧ ((sLm D A n (gf (sLm D A) n (-1, 9999))).1 = -1 ∧ (sLm D A n (gf (sLm D A) n (-1, 9999))).2 = 9999 ∨ ¬ (sLm D A n (gf (sLm D A) n (-1, 9999))).1 = -1 ∧ (sLm D A n (gf (sLm D A) n (-1, 9999))).2 = (if ¬ jT D A n = -1 ∧ ((gf (fun g y => if ¬ jT D A g = -1 ∧ (y.1 = -1 ∨ jT D A g < y.2) then (nI g, jT D A g) else y) n (-1, 0)).1 = -1 ∨ jT D A n < (gf (fun g y => if ¬ jT D A g = -1 ∧ (y.1 = -1 ∨ jT D A g < y.2) then (nI g, jT D A g) else y) n (-1, 0)).2) then (nI n, jT D A n) else gf (fun g y => if ¬ jT D A g = -1 ∧ (y.1 = -1 ∨ jT D A g < y.2) then (nI g, jT D A g) else y) n (-1, 0)).2)
    generalize gf (sLm D A) n (-1, 9999) = p at h1 ⊢
    generalize gf (fun g y => if ¬ jT D A g = -1 ∧ (y.1 = -1 ∨ jT D A g < y.2) then (nI g, jT D A g) else y) n (-1, 0) = q at h1 ⊢
    unfold sLm
    by_cases hb : A (6 + n) = 0
    · have e1 : jT D A n = -1 := if_pos hb
      rw [if_pos hb, if_neg (fun z => z.1 e1)]
      exact h1
    · have hb2 : A (12 + n) ≠ 0 := fun q => hb (ha.2.2.1.mpr q)
      have e1 : jT D A n = nI (jP D n (A (6 + n) - 1) (A (12 + n) - 1) + (A (12 + n) - 1)) := if_neg hb
      have hj := hW.jP (g := n) (by omega) (h := A (6 + n) - 1) (k := A (12 + n) - 1) (by omega) (by omega)
      have hne : ¬ jT D A n = -1 := by rw [e1]; exact nI_ne1 (by omega)
      rw [if_neg hb]
      rcases h1 with ⟨h1, ⟨h2, h3⟩ | ⟨h2, h3⟩⟩
      · have hlt : jT D A n < p.2 := by rw [h3, e1]; exact nI_lt (b := 9999) (by omega) (by omega)
        rw [if_pos hlt, if_pos ⟨hne, Or.inl (by rw [← h1]; exact h2)⟩]
        exact ⟨rfl, Or.inr ⟨nI_ne1 (by omega), rfl⟩⟩
      · by_cases hlt : jT D A n < p.2
        · rw [if_pos hlt, if_pos ⟨hne, Or.inr (by rw [← h3]; exact hlt)⟩]
          exact ⟨rfl, Or.inr ⟨nI_ne1 (by omega), rfl⟩⟩
        · rw [if_neg hlt, if_neg (fun z => z.2.elim (fun z => h2 (by rw [h1]; exact z)) (fun z => hlt (by rw [h3]; exact z)))]
          exact ⟨h1, Or.inr ⟨h2, h3⟩⟩
theorem mw_least (hM : gM σ D) (hX : mR (σ 45) A) (hA : wA2 D A) (hQ : Q (some (.int (sL D A).1)) σ) : gn_W (d + 3) 158 0 [.ref 44] [] σ Q := by
  have hle := hM.1.1
  have hhe := hM.1.2.1
  (refine gw_run 8 80 rfl ?_)
  refine gw_for (dG D) (sLm D A) (fun _ _ => True) (fun i y => [.ref 44, .int y.1, .int y.2, .int (nI i)]) (fun _ => σ) ((-1 : Int32), (9999 : Int32)) trivial (fun _ _ _ _ => trivial) ?_ ?_
  · intro i y hi _ hn
    have ha := hA.1 i hi
    have hc := hM.1.2.2.2.2.1 i hi
    (repeat (first | refine gx_run 999 80 rfl ?_ | refine gx_goto rfl rfl ?_))
    rw [hM.2.2.2.1]
    first | refine gx_iff rfl (nI_ge hi (by omega)) ?_ | refine gx_icf rfl (nI_ge hi (by omega)) ?_
    (repeat (first | refine gx_run 999 80 rfl ?_ | refine gx_goto rfl rfl ?_))
    refine gx_ld (6 + i) (nI_add 6 i) (by omega) (hX.by (by omega)) rfl rfl rfl ?_
    (repeat (first | refine gx_run 999 80 rfl ?_ | refine gx_goto rfl rfl ?_))
    unfold sLm at hn
    by_cases hb : A (6 + i) = 0
    · simp only [if_pos hb] at hn
      first | refine gx_ift rfl ((e1_ne (by omega)).mpr hb) ?_ | refine gx_ict rfl ((e1_ne (by omega)).mpr hb) ?_
      (repeat (first | refine gx_run 999 80 rfl ?_ | refine gx_goto rfl rfl ?_))
      refine gw_goto rfl ?_
      rw [nI_1]
      exact hn
    · simp only [if_neg hb] at hn
      have hb2 : A (12 + i) ≠ 0 := fun q => hb (ha.2.2.1.mpr q)
      have e1 : jT D A i = nI (jP D i (A (6 + i) - 1) (A (12 + i) - 1) + (A (12 + i) - 1)) := if_neg hb
      first | refine gx_iff rfl (fun q => hb ((e1_ne (by omega)).mp q)) ?_ | refine gx_icf rfl (fun q => hb ((e1_ne (by omega)).mp q)) ?_
      (repeat (first | refine gx_run 999 80 rfl ?_ | refine gx_goto rfl rfl ?_))
      refine gx_ld (6 + i) (nI_add 6 i) (by omega) (hX.by (by omega)) rfl rfl rfl ?_
      (repeat (first | refine gx_run 999 80 rfl ?_ | refine gx_goto rfl rfl ?_))
      refine gx_ld (12 + i) (nI_add 12 i) (by omega) (hX.at (by omega)) rfl rfl rfl ?_
      rw [e1_pos hb, e1_pos hb2]
      refine gx_call rfl rfl rfl ?_
      refine mw_joyOf hM hi (by omega) (by omega) ?_
      rw [← e1]
      (repeat (first | refine gx_run 999 80 rfl ?_ | refine gx_goto rfl rfl ?_))
      by_cases hl : jT D A i < y.2
      · rw [if_pos hl] at hn
        first | refine gx_iff rfl (fun q => absurd hl (Int32.not_lt.mpr q)) ?_ | refine gx_icf rfl (fun q => absurd hl (Int32.not_lt.mpr q)) ?_
        (repeat (first | refine gx_run 999 80 rfl ?_ | refine gx_goto rfl rfl ?_))
        first | refine gx_iff rfl (fun q => absurd hl (Int32.not_lt.mpr q)) ?_ | refine gx_icf rfl (fun q => absurd hl (Int32.not_lt.mpr q)) ?_
        (repeat (first | refine gx_run 999 80 rfl ?_ | refine gx_goto rfl rfl ?_))
        refine gw_goto rfl ?_
        rw [nI_1]
        exact gx_drop [_, _, _, _] [_] (by rfl) hn
      · rw [if_neg hl] at hn
        first | refine gx_ift rfl (Int32.not_lt.mp hl) ?_ | refine gx_ict rfl (Int32.not_lt.mp hl) ?_
        (repeat (first | refine gx_run 999 80 rfl ?_ | refine gx_goto rfl rfl ?_))
        first | refine gx_ift rfl (Int32.not_lt.mp hl) ?_ | refine gx_ict rfl (Int32.not_lt.mp hl) ?_
        (repeat (first | refine gx_run 999 80 rfl ?_ | refine gx_goto rfl rfl ?_))
        refine gw_goto rfl ?_
        rw [nI_1]
        exact gx_drop [_, _, _, _] [_] (by rfl) hn
  · intro _
    (repeat (first | refine gx_run 999 80 rfl ?_ | refine gx_goto rfl rfl ?_))
    rw [hM.2.2.2.1]
    first | refine gx_ift rfl (nI_le (Nat.le_refl _) (by omega)) ?_ | refine gx_ict rfl (nI_le (Nat.le_refl _) (by omega)) ?_
    (repeat (first | refine gx_run 999 80 rfl ?_ | refine gx_goto rfl rfl ?_))
    refine gx_iret rfl rfl ?_
    rw [(sL_eq hM.1 hA (Nat.le_refl _)).1]
    exact hQ
end
