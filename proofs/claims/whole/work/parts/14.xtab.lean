/-! the class's Table: contracts -/
def jK (kd bd : Nat) (f : Bool) : Nat := if kd = 0 then bd else if kd = 1 then bd / 2 else if kd = 2 then (if f then bd - 3 else bd + 5) else 9 - bd
/-- JOY as if none was SAID ahead -/
def jP (D : gD) (g h k : Nat) : Nat := jK (dK D h) (dB D g k) ((dF D).testBit (dT D g k)) + (if (dF D).testBit (dT D g k) then dP D g else 0)
theorem jK_le : ∀ kd, kd ≤ 3 → ∀ bd, bd ≤ 9 → ∀ f, jK kd bd f ≤ 14 := by decide
theorem gW.jP {D : gD} (hW : gW D) {g h k : Nat} (hg : g < dG D) (hh : h < dH D) (hk : k < dC D g) : jP D g h k ≤ 23 := by
  have h1 := jK_le _ (hW.2.2.2.2.2.2 h hh).1 _ (hW.2.2.2.2.2.1 g k hg hk).2 ((dF D).testBit (dT D g k))
  have h2 := (hW.2.2.2.2.1 g hg).1
  unfold _root_.Jvm.Pilot.CGuestNoesLaw_law_r7866_5d6c8b.jP
  split <;> omega
section
variable {d : Nat} {σ : gn_Mem} {Q : Option Value → gn_Mem → Prop} {D : gD}
theorem xw_hasGuest {t : Nat} {g : Int32} (ht : t = 28 ∨ t = 36) (hQ : Q (some (.int (gb (¬ g < 0 ∧ ¬ σ t 2 ≤ g)))) σ) : gn_W d 67 0 [.ref t, .int g] [] σ Q := by
  rcases ht with rfl | rfl <;>
  ((repeat (first | refine gx_run 999 80 rfl ?_ | refine gx_goto rfl rfl ?_))
   first | refine gw_if rfl (fun h => ?_) (fun h => ?_) | refine gw_icmp rfl (fun h => ?_) (fun h => ?_)
   · (repeat (first | refine gx_run 999 80 rfl ?_ | refine gx_goto rfl rfl ?_))
     refine gw_zret rfl (Or.inl rfl) ?_
     rw [gb_f (fun q => q.1 h)] at hQ; exact hQ
   · (repeat (first | refine gx_run 999 80 rfl ?_ | refine gx_goto rfl rfl ?_))
     first | refine gw_if rfl (fun h2 => ?_) (fun h2 => ?_) | refine gw_icmp rfl (fun h2 => ?_) (fun h2 => ?_)
     · (repeat (first | refine gx_run 999 80 rfl ?_ | refine gx_goto rfl rfl ?_))
       refine gw_zret rfl (Or.inl rfl) ?_
       rw [gb_f (fun q => q.2 h2)] at hQ; exact hQ
     · (repeat (first | refine gx_run 999 80 rfl ?_ | refine gx_goto rfl rfl ?_))
       refine gw_zret rfl (Or.inr rfl) ?_
       rw [gb_t ⟨h, h2⟩] at hQ; exact hQ)
theorem xw_hasG (hT : gT 28 σ D) {g : Nat} (hg : g < dG D) (hQ : Q (some (.int 1)) σ) : gn_W d 67 0 [.ref 28, .int (nI g)] [] σ Q := by
  have hle := hT.1.1
  refine xw_hasGuest (Or.inl rfl) ?_
  rw [hT.2.2.2.1, gb_t ⟨nI_pos (by omega), nI_ge hg (by omega)⟩]
  exact hQ
theorem xw_hasHost {h : Int32} (hQ : Q (some (.int (gb (¬ h < 0 ∧ ¬ σ 28 3 ≤ h)))) σ) : gn_W d 68 0 [.ref 28, .int h] [] σ Q := by
  (repeat (first | refine gx_run 999 80 rfl ?_ | refine gx_goto rfl rfl ?_))
  first | refine gw_if rfl (fun h1 => ?_) (fun h1 => ?_) | refine gw_icmp rfl (fun h1 => ?_) (fun h1 => ?_)
  · (repeat (first | refine gx_run 999 80 rfl ?_ | refine gx_goto rfl rfl ?_))
    refine gw_zret rfl (Or.inl rfl) ?_
    rw [gb_f (fun q => q.1 h1)] at hQ; exact hQ
  · (repeat (first | refine gx_run 999 80 rfl ?_ | refine gx_goto rfl rfl ?_))
    first | refine gw_if rfl (fun h2 => ?_) (fun h2 => ?_) | refine gw_icmp rfl (fun h2 => ?_) (fun h2 => ?_)
    · (repeat (first | refine gx_run 999 80 rfl ?_ | refine gx_goto rfl rfl ?_))
      refine gw_zret rfl (Or.inl rfl) ?_
      rw [gb_f (fun q => q.2 h2)] at hQ; exact hQ
    · (repeat (first | refine gx_run 999 80 rfl ?_ | refine gx_goto rfl rfl ?_))
      refine gw_zret rfl (Or.inr rfl) ?_
      rw [gb_t ⟨h1, h2⟩] at hQ; exact hQ
theorem xw_hasH (hT : gT 28 σ D) {h : Nat} (hh : h < dH D) (hQ : Q (some (.int 1)) σ) : gn_W d 68 0 [.ref 28, .int (nI h)] [] σ Q := by
  have hle := hT.1.2.1
  refine xw_hasHost ?_
  rw [hT.2.2.2.2.1, gb_t ⟨nI_pos (by omega), nI_ge hh (by omega)⟩]
  exact hQ
theorem xw_hasClaim (hT : gT 28 σ D) {g : Nat} (hg : g < dG D) {k : Int32} (hQ : Q (some (.int (gb (¬ k < 0 ∧ ¬ nI (dC D g) ≤ k)))) σ) : gn_W d 69 0 [.ref 28, .int (nI g), .int k] [] σ Q := by
  have hle := hT.1.1
  (repeat (first | refine gx_run 999 80 rfl ?_ | refine gx_goto rfl rfl ?_))
  first | refine gw_if rfl (fun h => ?_) (fun h => ?_) | refine gw_icmp rfl (fun h => ?_) (fun h => ?_)
  · exact absurd h (nI_pos (by omega))
  (repeat (first | refine gx_run 999 80 rfl ?_ | refine gx_goto rfl rfl ?_))
  rw [hT.2.2.2.1]
  first | refine gw_if rfl (fun h2 => ?_) (fun h2 => ?_) | refine gw_icmp rfl (fun h2 => ?_) (fun h2 => ?_)
  · exact absurd h2 (nI_ge hg (by omega))
  (repeat (first | refine gx_run 999 80 rfl ?_ | refine gx_goto rfl rfl ?_))
  first | refine gw_if rfl (fun h3 => ?_) (fun h3 => ?_) | refine gw_icmp rfl (fun h3 => ?_) (fun h3 => ?_)
  · (repeat (first | refine gx_run 999 80 rfl ?_ | refine gx_goto rfl rfl ?_))
    refine gw_zret rfl (Or.inl rfl) ?_
    rw [gb_f (fun q => q.1 h3)] at hQ; exact hQ
  (repeat (first | refine gx_run 999 80 rfl ?_ | refine gx_goto rfl rfl ?_))
  refine gx_ld g rfl (by omega) (hT.2.2.2.2.2.1 g hg).2.1 rfl rfl rfl ?_
  first | refine gw_if rfl (fun h4 => ?_) (fun h4 => ?_) | refine gw_icmp rfl (fun h4 => ?_) (fun h4 => ?_)
  · (repeat (first | refine gx_run 999 80 rfl ?_ | refine gx_goto rfl rfl ?_))
    refine gw_zret rfl (Or.inl rfl) ?_
    rw [gb_f (fun q => q.2 h4)] at hQ; exact hQ
  · (repeat (first | refine gx_run 999 80 rfl ?_ | refine gx_goto rfl rfl ?_))
    refine gw_zret rfl (Or.inr rfl) ?_
    rw [gb_t ⟨h3, h4⟩] at hQ; exact hQ
theorem xw_pride (hT : gT 28 σ D) {g : Nat} (hg : g < dG D) (hQ : Q (some (.int (nI (dP D g)))) σ) : gn_W (d + 1) 70 0 [.ref 28, .int (nI g)] [] σ Q := by
  have hle := hT.1.1
  (repeat (first | refine gx_run 999 80 rfl ?_ | refine gx_goto rfl rfl ?_))
  refine gx_call rfl rfl rfl ?_
  refine xw_hasG hT hg ?_
  (repeat (first | refine gx_run 999 80 rfl ?_ | refine gx_goto rfl rfl ?_))
  first | refine gw_if rfl (fun h => ?_) (fun h => ?_) | refine gw_icmp rfl (fun h => ?_) (fun h => ?_)
  · cases h
  (repeat (first | refine gx_run 999 80 rfl ?_ | refine gx_goto rfl rfl ?_))
  refine gx_ld g rfl (by omega) (hT.2.2.2.2.2.1 g hg).1 rfl rfl rfl ?_
  (repeat (first | refine gx_run 999 80 rfl ?_ | refine gx_goto rfl rfl ?_))
  refine gx_iret rfl rfl ?_
  exact hQ
theorem xw_claimCount (hT : gT 28 σ D) {g : Nat} (hg : g < dG D) (hQ : Q (some (.int (nI (dC D g)))) σ) : gn_W (d + 1) 71 0 [.ref 28, .int (nI g)] [] σ Q := by
  have hle := hT.1.1
  (repeat (first | refine gx_run 999 80 rfl ?_ | refine gx_goto rfl rfl ?_))
  refine gx_call rfl rfl rfl ?_
  refine xw_hasG hT hg ?_
  (repeat (first | refine gx_run 999 80 rfl ?_ | refine gx_goto rfl rfl ?_))
  first | refine gw_if rfl (fun h => ?_) (fun h => ?_) | refine gw_icmp rfl (fun h => ?_) (fun h => ?_)
  · cases h
  (repeat (first | refine gx_run 999 80 rfl ?_ | refine gx_goto rfl rfl ?_))
  refine gx_ld g rfl (by omega) (hT.2.2.2.2.2.1 g hg).2.1 rfl rfl rfl ?_
  (repeat (first | refine gx_run 999 80 rfl ?_ | refine gx_goto rfl rfl ?_))
  refine gx_iret rfl rfl ?_
  exact hQ
theorem xw_topicsOf (hT : gT 28 σ D) {g : Nat} (hg : g < dG D) (hQ : Q (some (.int (nI (dS D g)))) σ) : gn_W (d + 1) 83 0 [.ref 28, .int (nI g)] [] σ Q := by
  have hle := hT.1.1
  (repeat (first | refine gx_run 999 80 rfl ?_ | refine gx_goto rfl rfl ?_))
  refine gx_call rfl rfl rfl ?_
  refine xw_hasG hT hg ?_
  (repeat (first | refine gx_run 999 80 rfl ?_ | refine gx_goto rfl rfl ?_))
  first | refine gw_if rfl (fun h => ?_) (fun h => ?_) | refine gw_icmp rfl (fun h => ?_) (fun h => ?_)
  · cases h
  (repeat (first | refine gx_run 999 80 rfl ?_ | refine gx_goto rfl rfl ?_))
  refine gx_ld g rfl (by omega) (hT.2.2.2.2.2.1 g hg).2.2 rfl rfl rfl ?_
  (repeat (first | refine gx_run 999 80 rfl ?_ | refine gx_goto rfl rfl ?_))
  refine gx_iret rfl rfl ?_
  exact hQ
theorem xw_kind (hT : gT 28 σ D) {h : Nat} (hh : h < dH D) (hQ : Q (some (.int (nI (dK D h)))) σ) : gn_W (d + 1) 74 0 [.ref 28, .int (nI h)] [] σ Q := by
  have hle := hT.1.2.1
  (repeat (first | refine gx_run 999 80 rfl ?_ | refine gx_goto rfl rfl ?_))
  refine gx_call rfl rfl rfl ?_
  refine xw_hasH hT hh ?_
  (repeat (first | refine gx_run 999 80 rfl ?_ | refine gx_goto rfl rfl ?_))
  first | refine gw_if rfl (fun q0 => ?_) (fun q0 => ?_) | refine gw_icmp rfl (fun q0 => ?_) (fun q0 => ?_)
  · cases q0
  (repeat (first | refine gx_run 999 80 rfl ?_ | refine gx_goto rfl rfl ?_))
  refine gx_ld h rfl (by omega) (hT.2.2.2.2.2.2.2 h hh).1 rfl rfl rfl ?_
  (repeat (first | refine gx_run 999 80 rfl ?_ | refine gx_goto rfl rfl ?_))
  refine gx_iret rfl rfl ?_
  exact hQ
/-- noes(h): any h of 0 .. 3 -/
theorem xw_noes (hT : gT 28 σ D) {h : Nat} (hh : h < 4) (hQ : Q (some (.int (nI (if h < dH D then dN D h else 0)))) σ) : gn_W (d + 1) 75 0 [.ref 28, .int (nI h)] [] σ Q := by
  have hle := hT.1.2.1
  (repeat (first | refine gx_run 999 80 rfl ?_ | refine gx_goto rfl rfl ?_))
  refine gx_call rfl rfl rfl ?_
  refine xw_hasHost ?_
  rw [hT.2.2.2.2.1]
  by_cases hl : h < dH D
  · rw [gb_t ⟨nI_pos (by omega), nI_ge hl (by omega)⟩]
    rw [if_pos hl] at hQ
    (repeat (first | refine gx_run 999 80 rfl ?_ | refine gx_goto rfl rfl ?_))
    first | refine gw_if rfl (fun q0 => ?_) (fun q0 => ?_) | refine gw_icmp rfl (fun q0 => ?_) (fun q0 => ?_)
    · cases q0
    (repeat (first | refine gx_run 999 80 rfl ?_ | refine gx_goto rfl rfl ?_))
    refine gx_ld h rfl (by omega) (hT.2.2.2.2.2.2.2 h hl).2 rfl rfl rfl ?_
    (repeat (first | refine gx_run 999 80 rfl ?_ | refine gx_goto rfl rfl ?_))
    refine gx_iret rfl rfl ?_
    exact hQ
  · rw [gb_f (fun q => q.2 (nI_le (by omega) (by omega)))]
    rw [if_neg hl] at hQ
    (repeat (first | refine gx_run 999 80 rfl ?_ | refine gx_goto rfl rfl ?_))
    first | refine gw_if rfl (fun q0 => ?_) (fun q0 => ?_) | refine gw_icmp rfl (fun q0 => ?_) (fun q0 => ?_)
    · (repeat (first | refine gx_run 999 80 rfl ?_ | refine gx_goto rfl rfl ?_))
      refine gx_iret rfl rfl ?_
      exact hQ
    · exact absurd rfl q0
/-- topic(g, k), k of 0 .. 5 -/
theorem xw_topic (hT : gT 28 σ D) {g k : Nat} (hg : g < dG D) (hk : k < 6) (hQ : Q (some (.int (if k < dC D g then nI (dT D g k) else -1))) σ) : gn_W (d + 1) 72 0 [.ref 28, .int (nI g), .int (nI k)] [] σ Q := by
  have hle := hT.1.1
  have hc := hT.1.2.2.2.2.1 g hg
  (repeat (first | refine gx_run 999 80 rfl ?_ | refine gx_goto rfl rfl ?_))
  refine gx_call rfl rfl rfl ?_
  refine xw_hasClaim hT hg ?_
  by_cases hl : k < dC D g
  · rw [gb_t ⟨nI_pos (by omega), nI_ge hl (by omega)⟩]
    rw [if_pos hl] at hQ
    (repeat (first | refine gx_run 999 80 rfl ?_ | refine gx_goto rfl rfl ?_))
    first | refine gw_if rfl (fun h => ?_) (fun h => ?_) | refine gw_icmp rfl (fun h => ?_) (fun h => ?_)
    · cases h
    (repeat (first | refine gx_run 999 80 rfl ?_ | refine gx_goto rfl rfl ?_))
    refine gx_ld (6 * g + k) (ix6 g k) (by omega) (hT.2.2.2.2.2.2.1 g k hg hl).1 rfl rfl rfl ?_
    (repeat (first | refine gx_run 999 80 rfl ?_ | refine gx_goto rfl rfl ?_))
    refine gx_iret rfl rfl ?_
    exact hQ
  · rw [gb_f (fun q => q.2 (nI_le (by omega) (by omega)))]
    rw [if_neg hl] at hQ
    (repeat (first | refine gx_run 999 80 rfl ?_ | refine gx_goto rfl rfl ?_))
    first | refine gw_if rfl (fun h => ?_) (fun h => ?_) | refine gw_icmp rfl (fun h => ?_) (fun h => ?_)
    · (repeat (first | refine gx_run 999 80 rfl ?_ | refine gx_goto rfl rfl ?_))
      refine gx_iret rfl rfl ?_
      exact hQ
    · exact absurd rfl h
theorem xw_bold (hT : gT 28 σ D) {g k : Nat} (hg : g < dG D) (hk : k < 6) (hQ : Q (some (.int (if k < dC D g then nI (dB D g k) else -1))) σ) : gn_W (d + 1) 73 0 [.ref 28, .int (nI g), .int (nI k)] [] σ Q := by
  have hle := hT.1.1
  have hc := hT.1.2.2.2.2.1 g hg
  (repeat (first | refine gx_run 999 80 rfl ?_ | refine gx_goto rfl rfl ?_))
  refine gx_call rfl rfl rfl ?_
  refine xw_hasClaim hT hg ?_
  by_cases hl : k < dC D g
  · rw [gb_t ⟨nI_pos (by omega), nI_ge hl (by omega)⟩]
    rw [if_pos hl] at hQ
    (repeat (first | refine gx_run 999 80 rfl ?_ | refine gx_goto rfl rfl ?_))
    first | refine gw_if rfl (fun h => ?_) (fun h => ?_) | refine gw_icmp rfl (fun h => ?_) (fun h => ?_)
    · cases h
    (repeat (first | refine gx_run 999 80 rfl ?_ | refine gx_goto rfl rfl ?_))
    refine gx_ld (6 * g + k) (ix6 g k) (by omega) (hT.2.2.2.2.2.2.1 g k hg hl).2 rfl rfl rfl ?_
    (repeat (first | refine gx_run 999 80 rfl ?_ | refine gx_goto rfl rfl ?_))
    refine gx_iret rfl rfl ?_
    exact hQ
  · rw [gb_f (fun q => q.2 (nI_le (by omega) (by omega)))]
    rw [if_neg hl] at hQ
    (repeat (first | refine gx_run 999 80 rfl ?_ | refine gx_goto rfl rfl ?_))
    first | refine gw_if rfl (fun h => ?_) (fun h => ?_) | refine gw_icmp rfl (fun h => ?_) (fun h => ?_)
    · (repeat (first | refine gx_run 999 80 rfl ?_ | refine gx_goto rfl rfl ?_))
      refine gx_iret rfl rfl ?_
      exact hQ
    · exact absurd rfl h
theorem xw_isTrue (hT : gT 28 σ D) {t : Nat} (ht : t < 8) (hQ : Q (some (.int (gb ((dF D).testBit t = true)))) σ) : gn_W d 76 0 [.ref 28, .int (nI t)] [] σ Q := by
  (repeat (first | refine gx_run 999 80 rfl ?_ | refine gx_goto rfl rfl ?_))
  rw [hT.2.2.1]
  have hb := bit_lt (t := t) hT.1.2.2.2.1 ht
  first | refine gw_if rfl (fun h => ?_) (fun h => ?_) | refine gw_icmp rfl (fun h => ?_) (fun h => ?_)
  · (repeat (first | refine gx_run 999 80 rfl ?_ | refine gx_goto rfl rfl ?_))
    refine gw_zret rfl (Or.inl rfl) ?_
    rw [gb_f (by rw [hb.mp h]; simp)] at hQ; exact hQ
  · (repeat (first | refine gx_run 999 80 rfl ?_ | refine gx_goto rfl rfl ?_))
    refine gw_zret rfl (Or.inr rfl) ?_
    have h2 : (dF D).testBit t = true := by
      cases hq : (dF D).testBit t with
      | true => rfl
      | false => exact absurd (hb.mpr hq) h
    rw [gb_t h2] at hQ; exact hQ
theorem jk_half : ∀ bd, bd ≤ 9 → nI bd / 2 = nI (bd / 2) := by decide
theorem jk_less : ∀ bd, bd ≤ 9 → (if (0 : Int32) < nI bd - 3 then nI bd - 3 else 0) = nI (bd - 3) := by decide
theorem jk_more : ∀ bd, bd ≤ 9 → nI bd + 5 = nI (bd + 5) := by decide
theorem jk_nine : ∀ bd, bd ≤ 9 → 9 - nI bd = nI (9 - bd) := by decide
theorem xw_joyByKind {kd bd : Nat} {f : Bool} (hk : kd ≤ 3) (hb : bd ≤ 9) (hQ : Q (some (.int (nI (jK kd bd f)))) σ) : gn_W (d + 1) 78 0 [.int (nI kd), .int (nI bd), .int (gb (f = true))] [] σ Q := by
  rcases (show kd = 0 ∨ kd = 1 ∨ kd = 2 ∨ kd = 3 by omega) with rfl | rfl | rfl | rfl
  · (repeat (first | refine gx_run 999 80 rfl ?_ | refine gx_goto rfl rfl ?_))
    refine gw_tsw rfl 28 (by decide) ?_
    (repeat (first | refine gx_run 999 80 rfl ?_ | refine gx_goto rfl rfl ?_))
    refine gx_iret rfl rfl ?_
    exact hQ
  · (repeat (first | refine gx_run 999 80 rfl ?_ | refine gx_goto rfl rfl ?_))
    refine gw_tsw rfl 30 (by decide) ?_
    (repeat (first | refine gx_run 999 80 rfl ?_ | refine gx_goto rfl rfl ?_))
    refine gw_idiv rfl (by decide) ?_
    refine gx_iret rfl rfl ?_
    rw [jk_half bd hb]
    exact hQ
  · (repeat (first | refine gx_run 999 80 rfl ?_ | refine gx_goto rfl rfl ?_))
    refine gw_tsw rfl 34 (by decide) ?_
    (repeat (first | refine gx_run 999 80 rfl ?_ | refine gx_goto rfl rfl ?_))
    cases f with
    | true =>
      first | refine gw_if rfl (fun q0 => ?_) (fun q0 => ?_) | refine gw_icmp rfl (fun q0 => ?_) (fun q0 => ?_)
      · cases q0
      (repeat (first | refine gx_run 999 80 rfl ?_ | refine gx_goto rfl rfl ?_))
      refine gx_iret rfl rfl ?_
      have e := jk_less bd hb
      rw [e]
      exact hQ
    | false =>
      first | refine gw_if rfl (fun q0 => ?_) (fun q0 => ?_) | refine gw_icmp rfl (fun q0 => ?_) (fun q0 => ?_)
      · (repeat (first | refine gx_run 999 80 rfl ?_ | refine gx_goto rfl rfl ?_))
        refine gx_iret rfl rfl ?_
        rw [jk_more bd hb]
        exact hQ
      · exact absurd rfl q0
  · (repeat (first | refine gx_run 999 80 rfl ?_ | refine gx_goto rfl rfl ?_))
    refine gw_tsw rfl 52 (by decide) ?_
    (repeat (first | refine gx_run 999 80 rfl ?_ | refine gx_goto rfl rfl ?_))
    refine gx_iret rfl rfl ?_
    rw [jk_nine bd hb]
    exact hQ
theorem xw_jwna (hT : gT 28 σ D) {g h k : Nat} (hg : g < dG D) (hh : h < dH D) (hk : k < 6) (hQ : Q (some (.int (if k < dC D g then nI (jP D g h k) else -1))) σ) : gn_W (d + 2) 77 0 [.ref 28, .int (nI g), .int (nI h), .int (nI k)] [] σ Q := by
  have hle := hT.1.1
  have hhe := hT.1.2.1
  have hc := hT.1.2.2.2.2.1 g hg
  (repeat (first | refine gx_run 999 80 rfl ?_ | refine gx_goto rfl rfl ?_))
  refine gx_call rfl rfl rfl ?_
  refine xw_hasClaim hT hg ?_
  by_cases hl : k < dC D g
  · rw [gb_t ⟨nI_pos (by omega), nI_ge hl (by omega)⟩]
    rw [if_pos hl] at hQ
    have hv := hT.2.2.2.2.2.2.1 g k hg hl
    have hw := hT.1.2.2.2.2.2.1 g k hg hl
    have hz := hT.2.2.2.2.2.2.2 h hh
    have hy := hT.1.2.2.2.2.2.2 h hh
    (repeat (first | refine gx_run 999 80 rfl ?_ | refine gx_goto rfl rfl ?_))
    first | refine gw_if rfl (fun q0 => ?_) (fun q0 => ?_) | refine gw_icmp rfl (fun q0 => ?_) (fun q0 => ?_)
    · cases q0
    (repeat (first | refine gx_run 999 80 rfl ?_ | refine gx_goto rfl rfl ?_))
    refine gx_call rfl rfl rfl ?_
    refine xw_hasH hT hh ?_
    (repeat (first | refine gx_run 999 80 rfl ?_ | refine gx_goto rfl rfl ?_))
    first | refine gx_ift rfl (by dsimp only [gn_cmp] <;> decide) ?_ | refine gx_ict rfl (by dsimp only [gn_cmp] <;> decide) ?_
    (repeat (first | refine gx_run 999 80 rfl ?_ | refine gx_goto rfl rfl ?_))
    refine gx_ld (6 * g + k) (ix6 g k) (by omega) hv.1 rfl rfl rfl ?_
    refine gx_call rfl rfl rfl ?_
    refine xw_isTrue hT hw.1 ?_
    (repeat (first | refine gx_run 999 80 rfl ?_ | refine gx_goto rfl rfl ?_))
    refine gx_ld h rfl (by omega) hz.1 rfl rfl rfl ?_
    (repeat (first | refine gx_run 999 80 rfl ?_ | refine gx_goto rfl rfl ?_))
    refine gx_ld (6 * g + k) (ix6 g k) (by omega) hv.2 rfl rfl rfl ?_
    (repeat (first | refine gx_run 999 80 rfl ?_ | refine gx_goto rfl rfl ?_))
    refine gw_calls rfl rfl rfl ?_
    refine xw_joyByKind hy.1 hw.2 ?_
    (repeat (first | refine gx_run 999 80 rfl ?_ | refine gx_goto rfl rfl ?_))
    unfold jP at hQ
    cases hf : (dF D).testBit (dT D g k) with
    | true =>
      rw [hf] at hQ
      first | refine gw_if rfl (fun q2 => ?_) (fun q2 => ?_) | refine gw_icmp rfl (fun q2 => ?_) (fun q2 => ?_)
      · cases q2
      (repeat (first | refine gx_run 999 80 rfl ?_ | refine gx_goto rfl rfl ?_))
      refine gx_ld g rfl (by omega) (hT.2.2.2.2.2.1 g hg).1 rfl rfl rfl ?_
      (repeat (first | refine gx_run 999 80 rfl ?_ | refine gx_goto rfl rfl ?_))
      refine gx_iret rfl rfl ?_
      rw [nI_add]
      exact hQ
    | false =>
      rw [hf] at hQ
      first | refine gw_if rfl (fun q2 => ?_) (fun q2 => ?_) | refine gw_icmp rfl (fun q2 => ?_) (fun q2 => ?_)
      · (repeat (first | refine gx_run 999 80 rfl ?_ | refine gx_goto rfl rfl ?_))
        refine gx_iret rfl rfl ?_
        exact hQ
      · exact absurd rfl q2
  · rw [gb_f (fun q => q.2 (nI_le (by omega) (by omega)))]
    rw [if_neg hl] at hQ
    (repeat (first | refine gx_run 999 80 rfl ?_ | refine gx_goto rfl rfl ?_))
    first | refine gw_if rfl (fun q0 => ?_) (fun q0 => ?_) | refine gw_icmp rfl (fun q0 => ?_) (fun q0 => ?_)
    · (repeat (first | refine gx_run 999 80 rfl ?_ | refine gx_goto rfl rfl ?_))
      refine gx_iret rfl rfl ?_
      exact hQ
    · exact absurd rfl q0
/-- no host: NONE -/
theorem xw_jwnaN (hT : gT 28 σ D) {g : Nat} {k : Int32} (hg : g < dG D) (hQ : Q (some (.int (-1))) σ) : gn_W (d + 2) 77 0 [.ref 28, .int (nI g), .int (-1), .int k] [] σ Q := by
  (repeat (first | refine gx_run 999 80 rfl ?_ | refine gx_goto rfl rfl ?_))
  refine gx_call rfl rfl rfl ?_
  refine xw_hasClaim hT hg ?_
  (repeat (first | refine gx_run 999 80 rfl ?_ | refine gx_goto rfl rfl ?_))
  first | refine gw_if rfl (fun q0 => ?_) (fun q0 => ?_) | refine gw_icmp rfl (fun q0 => ?_) (fun q0 => ?_)
  · (repeat (first | refine gx_run 999 80 rfl ?_ | refine gx_goto rfl rfl ?_))
    refine gx_iret rfl rfl ?_
    exact hQ
  · (repeat (first | refine gx_run 999 80 rfl ?_ | refine gx_goto rfl rfl ?_))
    refine gx_call rfl rfl rfl ?_
    refine xw_hasHost ?_
    rw [gb_f (fun q => q.1 (by decide))]
    (repeat (first | refine gx_run 999 80 rfl ?_ | refine gx_goto rfl rfl ?_))
    first | refine gw_if rfl (fun q1 => ?_) (fun q1 => ?_) | refine gw_icmp rfl (fun q1 => ?_) (fun q1 => ?_)
    · exact absurd rfl q1
    · (repeat (first | refine gx_run 999 80 rfl ?_ | refine gx_goto rfl rfl ?_))
      refine gx_iret rfl rfl ?_
      exact hQ
theorem nI_ne1 {n : Nat} (h : n < 2 ^ 31) : ¬ nI n = -1 := fun e => nI_pos h (by rw [e]; decide)
theorem xw_joyOf (hT : gT 28 σ D) {g h k : Nat} (hg : g < dG D) (hh : h < dH D) (hk : k < 6) (hQ : Q (some (.int (if k < dC D g then nI (jP D g h k + k) else -1))) σ) : gn_W (d + 3) 79 0 [.ref 28, .int (nI g), .int (nI h), .int (nI k)] [] σ Q := by
  (repeat (first | refine gx_run 999 80 rfl ?_ | refine gx_goto rfl rfl ?_))
  refine gx_call rfl rfl rfl ?_
  refine xw_jwna hT hg hh hk ?_
  by_cases hl : k < dC D g
  · rw [if_pos hl] at hQ ⊢
    have hb := hT.1.jP hg hh hl
    (repeat (first | refine gx_run 999 80 rfl ?_ | refine gx_goto rfl rfl ?_))
    first | refine gw_if rfl (fun q0 => ?_) (fun q0 => ?_) | refine gw_icmp rfl (fun q0 => ?_) (fun q0 => ?_)
    · (repeat (first | refine gx_run 999 80 rfl ?_ | refine gx_goto rfl rfl ?_))
      refine gx_iret rfl rfl ?_
      rw [nI_add]
      exact hQ
    · exact absurd (nI_ne1 (by omega)) q0
  · rw [if_neg hl] at hQ ⊢
    (repeat (first | refine gx_run 999 80 rfl ?_ | refine gx_goto rfl rfl ?_))
    first | refine gw_if rfl (fun q0 => ?_) (fun q0 => ?_) | refine gw_icmp rfl (fun q0 => ?_) (fun q0 => ?_)
    · exact absurd rfl q0
    · (repeat (first | refine gx_run 999 80 rfl ?_ | refine gx_goto rfl rfl ?_))
      refine gx_iret rfl rfl ?_
      exact hQ
theorem xw_joyOfN (hT : gT 28 σ D) {g : Nat} {k : Int32} (hg : g < dG D) (hQ : Q (some (.int (-1))) σ) : gn_W (d + 3) 79 0 [.ref 28, .int (nI g), .int (-1), .int k] [] σ Q := by
  (repeat (first | refine gx_run 999 80 rfl ?_ | refine gx_goto rfl rfl ?_))
  refine gx_call rfl rfl rfl ?_
  refine xw_jwnaN hT hg ?_
  (repeat (first | refine gx_run 999 80 rfl ?_ | refine gx_goto rfl rfl ?_))
  first | refine gw_if rfl (fun q0 => ?_) (fun q0 => ?_) | refine gw_icmp rfl (fun q0 => ?_) (fun q0 => ?_)
  · exact absurd rfl q0
  · (repeat (first | refine gx_run 999 80 rfl ?_ | refine gx_goto rfl rfl ?_))
    refine gx_iret rfl rfl ?_
    exact hQ
end
