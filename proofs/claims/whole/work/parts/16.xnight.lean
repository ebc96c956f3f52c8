/-! the class's Night: what it holds, and its questions -/
def e1 : Nat → Int32
  | 0 => -1
  | h + 1 => nI h
def vv (k n : Nat) : Int32 := if 6 ≤ k ∧ k < 18 then e1 n else nI n
/-- the class's place of a number to the reference's -/
def rho (j : Nat) : Nat := if j < 18 then j else if j < 22 then j + 2 else if j = 22 then 18 else if j = 23 then 19 else j
abbrev gA : Type := Nat → Nat
def aup (A : gA) (k n : Nat) : gA := fun j => if j = k then n else A j
def xR (f : Nat → Int32) (A : gA) : Prop := ∀ j, j < 28 → f j = vv (rho j) (A (rho j))
def mR (f : Nat → Int32) (A : gA) : Prop := ∀ k, k < 28 → f k = vv k (A k)
/-- a night's bounds, by its evening -/
def wA2 (D : gD) (A : gA) : Prop := (∀ g, g < dG D → A g ≤ dC D g ∧ A (6 + g) ≤ dH D ∧ (A (6 + g) = 0 ↔ A (12 + g) = 0) ∧ A (12 + g) ≤ A g) ∧ (∀ g, dG D ≤ g → g < 6 → A g ≤ 6 ∧ A (6 + g) ≤ 4 ∧ A (12 + g) ≤ 6) ∧ (∀ h, h < 4 → A (20 + h) ≤ 9) ∧ A 18 < 64 ∧ A 19 < 64 ∧ A 24 ≤ 999999 ∧ A 25 ≤ 999999 ∧ A 26 ≤ 90020 ∧ A 27 ≤ 90000
theorem rho_inj : ∀ i, i < 28 → ∀ j, j < 28 → rho i = rho j → i = j := by decide
theorem rho_lt : ∀ i, i < 28 → rho i < 28 := by decide
theorem xR.upd {f : Nat → Int32} {A : gA} (h : xR f A) {j n : Nat} {v : Int32} (hj : j < 28) (hv : v = vv (rho j) n) : xR (upd f j v) (aup A (rho j) n) := by
  intro i hi
  unfold _root_.Jvm.Pilot.CGuestNoesLaw_law_r7866_5d6c8b.upd aup
  by_cases e : i = j
  · subst e
    rw [if_pos rfl, if_pos rfl, hv]
  · rw [if_neg e, if_neg (fun q => e (rho_inj i hi j hj q))]
    exact h i hi
theorem mR.upd {f : Nat → Int32} {A : gA} (h : mR f A) {j n : Nat} {v : Int32} (hv : v = vv j n) : mR (upd f j v) (aup A j n) := by
  intro i hi
  unfold _root_.Jvm.Pilot.CGuestNoesLaw_law_r7866_5d6c8b.upd aup
  by_cases e : i = j
  · subst e
    rw [if_pos rfl, if_pos rfl, hv]
  · rw [if_neg e, if_neg e]
    exact h i hi
theorem xR.said {f : Nat → Int32} {A : gA} (h : xR f A) {g : Nat} (hg : g < 6) : f g = nI (A g) := by
  have h1 := h g (by omega)
  have e : rho g = g := by unfold rho; rw [if_pos (by omega)]
  rw [e] at h1
  rw [h1]; unfold vv; rw [if_neg (by omega)]
theorem xR.by {f : Nat → Int32} {A : gA} (h : xR f A) {g : Nat} (hg : g < 6) : f (6 + g) = e1 (A (6 + g)) := by
  have h1 := h (6 + g) (by omega)
  have e : rho (6 + g) = 6 + g := by unfold rho; rw [if_pos (by omega)]
  rw [e] at h1
  rw [h1]; unfold vv; rw [if_pos (by omega)]
theorem xR.at {f : Nat → Int32} {A : gA} (h : xR f A) {g : Nat} (hg : g < 6) : f (12 + g) = e1 (A (12 + g)) := by
  have h1 := h (12 + g) (by omega)
  have e : rho (12 + g) = 12 + g := by unfold rho; rw [if_pos (by omega)]
  rw [e] at h1
  rw [h1]; unfold vv; rw [if_pos (by omega)]
theorem xR.no {f : Nat → Int32} {A : gA} (h : xR f A) {g : Nat} (hg : g < 4) : f (18 + g) = nI (A (20 + g)) := by
  have h1 := h (18 + g) (by omega)
  have e : rho (18 + g) = 20 + g := by unfold rho; rw [if_neg (by omega), if_pos (by omega)]; omega
  rw [e] at h1
  rw [h1]; unfold vv; rw [if_neg (by omega)]
theorem xR.up {f : Nat → Int32} {A : gA} (h : xR f A) : f 22 = nI (A 18) := h 22 (by decide)
theorem xR.wk {f : Nat → Int32} {A : gA} (h : xR f A) : f 23 = nI (A 19) := h 23 (by decide)
theorem xR.gl {f : Nat → Int32} {A : gA} (h : xR f A) : f 24 = nI (A 24) := h 24 (by decide)
theorem xR.ins {f : Nat → Int32} {A : gA} (h : xR f A) : f 25 = nI (A 25) := h 25 (by decide)
theorem xR.hr {f : Nat → Int32} {A : gA} (h : xR f A) : f 26 = nI (A 26) := h 26 (by decide)
theorem xR.ev {f : Nat → Int32} {A : gA} (h : xR f A) : f 27 = nI (A 27) := h 27 (by decide)
theorem bit6 {s t : Nat} (hs : s < 64) (ht : t < 6) : (nI s >>> (nI t &&& 31) &&& 1 = 0) ↔ s.testBit t = false := bit_lt (by omega) (by omega)
section
variable {d : Nat} {σ : gn_Mem} {Q : Option Value → gn_Mem → Prop} {D : gD} {A : gA}
theorem xw_isSeat {g : Nat} (hg : g < 6) (hQ : Q (some (.int 1)) σ) : gn_W d 14 0 [.int (nI g)] [] σ Q := by
  (repeat (first | refine gx_run 999 80 rfl ?_ | refine gx_goto rfl rfl ?_))
  first | refine gx_iff rfl (nI_pos (by omega)) ?_ | refine gx_icf rfl (nI_pos (by omega)) ?_
  (repeat (first | refine gx_run 999 80 rfl ?_ | refine gx_goto rfl rfl ?_))
  first | refine gx_iff rfl (nI_ge (b := 6) hg (by omega)) ?_ | refine gx_icf rfl (nI_ge (b := 6) hg (by omega)) ?_
  (repeat (first | refine gx_run 999 80 rfl ?_ | refine gx_goto rfl rfl ?_))
  refine gw_zret rfl (Or.inr rfl) ?_
  exact hQ
theorem xw_said (hX : xR (σ 4) A) {g : Nat} (hg : g < 6) (hQ : Q (some (.int (nI (A g)))) σ) : gn_W (d + 1) 15 0 [.ref 3, .int (nI g)] [] σ Q := by
  (repeat (first | refine gx_run 999 80 rfl ?_ | refine gx_goto rfl rfl ?_))
  refine gw_calls rfl rfl rfl ?_
  refine xw_isSeat hg ?_
  (repeat (first | refine gx_run 999 80 rfl ?_ | refine gx_goto rfl rfl ?_))
  first | refine gx_iff rfl (by dsimp only [gn_cmp] <;> decide) ?_ | refine gx_icf rfl (by dsimp only [gn_cmp] <;> decide) ?_
  (repeat (first | refine gx_run 999 80 rfl ?_ | refine gx_goto rfl rfl ?_))
  refine gx_ld g (by rw [Int32.zero_add]) (by omega) (hX.said hg) rfl rfl rfl ?_
  (repeat (first | refine gx_run 999 80 rfl ?_ | refine gx_goto rfl rfl ?_))
  refine gx_iret rfl rfl ?_
  exact hQ
theorem xw_toldBy (hX : xR (σ 4) A) {g : Nat} (hg : g < 6) (hQ : Q (some (.int (e1 (A (6 + g))))) σ) : gn_W (d + 1) 16 0 [.ref 3, .int (nI g)] [] σ Q := by
  (repeat (first | refine gx_run 999 80 rfl ?_ | refine gx_goto rfl rfl ?_))
  refine gw_calls rfl rfl rfl ?_
  refine xw_isSeat hg ?_
  (repeat (first | refine gx_run 999 80 rfl ?_ | refine gx_goto rfl rfl ?_))
  first | refine gx_iff rfl (by dsimp only [gn_cmp] <;> decide) ?_ | refine gx_icf rfl (by dsimp only [gn_cmp] <;> decide) ?_
  (repeat (first | refine gx_run 999 80 rfl ?_ | refine gx_goto rfl rfl ?_))
  refine gx_ld (6 + g) (nI_add 6 g) (by omega) (hX.by hg) rfl rfl rfl ?_
  (repeat (first | refine gx_run 999 80 rfl ?_ | refine gx_goto rfl rfl ?_))
  refine gx_iret rfl rfl ?_
  exact hQ
theorem xw_toldAt (hX : xR (σ 4) A) {g : Nat} (hg : g < 6) (hQ : Q (some (.int (e1 (A (12 + g))))) σ) : gn_W (d + 1) 17 0 [.ref 3, .int (nI g)] [] σ Q := by
  (repeat (first | refine gx_run 999 80 rfl ?_ | refine gx_goto rfl rfl ?_))
  refine gw_calls rfl rfl rfl ?_
  refine xw_isSeat hg ?_
  (repeat (first | refine gx_run 999 80 rfl ?_ | refine gx_goto rfl rfl ?_))
  first | refine gx_iff rfl (by dsimp only [gn_cmp] <;> decide) ?_ | refine gx_icf rfl (by dsimp only [gn_cmp] <;> decide) ?_
  (repeat (first | refine gx_run 999 80 rfl ?_ | refine gx_goto rfl rfl ?_))
  refine gx_ld (12 + g) (nI_add 12 g) (by omega) (hX.at hg) rfl rfl rfl ?_
  (repeat (first | refine gx_run 999 80 rfl ?_ | refine gx_goto rfl rfl ?_))
  refine gx_iret rfl rfl ?_
  exact hQ
theorem xw_noesLeft (hX : xR (σ 4) A) {h : Nat} (hh : h < 4) (hQ : Q (some (.int (nI (A (20 + h))))) σ) : gn_W d 18 0 [.ref 3, .int (nI h)] [] σ Q := by
  (repeat (first | refine gx_run 999 80 rfl ?_ | refine gx_goto rfl rfl ?_))
  first | refine gx_iff rfl (nI_pos (by omega)) ?_ | refine gx_icf rfl (nI_pos (by omega)) ?_
  (repeat (first | refine gx_run 999 80 rfl ?_ | refine gx_goto rfl rfl ?_))
  first | refine gx_iff rfl (nI_ge (b := 4) hh (by omega)) ?_ | refine gx_icf rfl (nI_ge (b := 4) hh (by omega)) ?_
  (repeat (first | refine gx_run 999 80 rfl ?_ | refine gx_goto rfl rfl ?_))
  refine gx_ld (18 + h) (nI_add 18 h) (by omega) (hX.no hh) rfl rfl rfl ?_
  (repeat (first | refine gx_run 999 80 rfl ?_ | refine gx_goto rfl rfl ?_))
  refine gx_iret rfl rfl ?_
  exact hQ
theorem xw_whoIsUp (hX : xR (σ 4) A) (hQ : Q (some (.int (nI (A 18)))) σ) : gn_W d 19 0 [.ref 3] [] σ Q := by
  (repeat (first | refine gx_run 999 80 rfl ?_ | refine gx_goto rfl rfl ?_))
  refine gx_ld 22 rfl (by omega) hX.up rfl rfl rfl ?_
  refine gx_iret rfl rfl ?_
  exact hQ
theorem xw_whoWalks (hX : xR (σ 4) A) (hQ : Q (some (.int (nI (A 19)))) σ) : gn_W d 20 0 [.ref 3] [] σ Q := by
  (repeat (first | refine gx_run 999 80 rfl ?_ | refine gx_goto rfl rfl ?_))
  refine gx_ld 23 rfl (by omega) hX.wk rfl rfl rfl ?_
  refine gx_iret rfl rfl ?_
  exact hQ
theorem xw_glad (hX : xR (σ 4) A) (hQ : Q (some (.int (nI (A 24)))) σ) : gn_W d 21 0 [.ref 3] [] σ Q := by
  (repeat (first | refine gx_run 999 80 rfl ?_ | refine gx_goto rfl rfl ?_))
  refine gx_ld 24 rfl (by omega) hX.gl rfl rfl rfl ?_
  refine gx_iret rfl rfl ?_
  exact hQ
theorem xw_insults (hX : xR (σ 4) A) (hQ : Q (some (.int (nI (A 25)))) σ) : gn_W d 22 0 [.ref 3] [] σ Q := by
  (repeat (first | refine gx_run 999 80 rfl ?_ | refine gx_goto rfl rfl ?_))
  refine gx_ld 25 rfl (by omega) hX.ins rfl rfl rfl ?_
  refine gx_iret rfl rfl ?_
  exact hQ
theorem xw_hours (hX : xR (σ 4) A) (hQ : Q (some (.int (nI (A 26)))) σ) : gn_W d 23 0 [.ref 3] [] σ Q := by
  (repeat (first | refine gx_run 999 80 rfl ?_ | refine gx_goto rfl rfl ?_))
  refine gx_ld 26 rfl (by omega) hX.hr rfl rfl rfl ?_
  refine gx_iret rfl rfl ?_
  exact hQ
theorem xw_evenings (hX : xR (σ 4) A) (hQ : Q (some (.int (nI (A 27)))) σ) : gn_W d 24 0 [.ref 3] [] σ Q := by
  (repeat (first | refine gx_run 999 80 rfl ?_ | refine gx_goto rfl rfl ?_))
  refine gx_ld 27 rfl (by omega) hX.ev rfl rfl rfl ?_
  refine gx_iret rfl rfl ?_
  exact hQ
theorem xw_isUp (hX : xR (σ 4) A) (hA : A 18 < 64) {g : Nat} (hg : g < 6) (hQ : Q (some (.int (gb ((A 18).testBit g = true)))) σ) : gn_W (d + 1) 25 0 [.ref 3, .int (nI g)] [] σ Q := by
  (repeat (first | refine gx_run 999 80 rfl ?_ | refine gx_goto rfl rfl ?_))
  refine gw_calls rfl rfl rfl ?_
  refine xw_isSeat hg ?_
  (repeat (first | refine gx_run 999 80 rfl ?_ | refine gx_goto rfl rfl ?_))
  first | refine gx_iff rfl (by dsimp only [gn_cmp] <;> decide) ?_ | refine gx_icf rfl (by dsimp only [gn_cmp] <;> decide) ?_
  (repeat (first | refine gx_run 999 80 rfl ?_ | refine gx_goto rfl rfl ?_))
  refine gx_ld 22 rfl (by omega) hX.up rfl rfl rfl ?_
  (repeat (first | refine gx_run 999 80 rfl ?_ | refine gx_goto rfl rfl ?_))
  have hb := bit6 hA hg
  first | refine gw_if rfl (fun h => ?_) (fun h => ?_) | refine gw_icmp rfl (fun h => ?_) (fun h => ?_)
  · (repeat (first | refine gx_run 999 80 rfl ?_ | refine gx_goto rfl rfl ?_))
    refine gw_zret rfl (Or.inl rfl) ?_
    rw [gb_f (by rw [hb.mp h]; simp)] at hQ; exact hQ
  · (repeat (first | refine gx_run 999 80 rfl ?_ | refine gx_goto rfl rfl ?_))
    refine gw_zret rfl (Or.inr rfl) ?_
    have h2 : (A 18).testBit g = true := by
      cases hq : (A 18).testBit g with
      | true => rfl
      | false => exact absurd (hb.mpr hq) h
    rw [gb_t h2] at hQ; exact hQ
theorem foc {s : Nat} (h : s ≤ 6) : (if (0 : Int32) < nI s - 1 then nI s - 1 else 0) = nI (s - 1) := by
  have : ∀ s, s ≤ 6 → (if (0 : Int32) < nI s - 1 then nI s - 1 else 0) = nI (s - 1) := by decide
  exact this s h
theorem xw_foc (hX : xR (σ 4) A) {g : Nat} (hg : g < 6) (hs : A g ≤ 6) (hQ : Q (some (.int (nI (A g - 1)))) σ) : gn_W (d + 2) 26 0 [.ref 3, .int (nI g)] [] σ Q := by
  (repeat (first | refine gx_run 999 80 rfl ?_ | refine gx_goto rfl rfl ?_))
  refine gx_call rfl rfl rfl ?_
  refine xw_said hX hg ?_
  (repeat (first | refine gx_run 999 80 rfl ?_ | refine gx_goto rfl rfl ?_))
  refine gx_iret rfl rfl ?_
  rw [foc hs]
  exact hQ
theorem xw_canSpeak (hT : gT 28 σ D) (hX : xR (σ 4) A) (hA : wA2 D A) {g : Nat} (hg : g < dG D) (hQ : Q (some (.int (gb ((A 18).testBit g = true ∧ A g < dC D g)))) σ) : gn_W (d + 2) 27 0 [.ref 3, .ref 28, .int (nI g)] [] σ Q := by
  have hle := hT.1.1
  have hc := hT.1.2.2.2.2.1 g hg
  have ha := hA.1 g hg
  (repeat (first | refine gx_run 999 80 rfl ?_ | refine gx_goto rfl rfl ?_))
  refine gx_call rfl rfl rfl ?_
  refine xw_isUp hX hA.2.2.2.1 (by omega) ?_
  by_cases hu : (A 18).testBit g = true
  · rw [gb_t hu]
    (repeat (first | refine gx_run 999 80 rfl ?_ | refine gx_goto rfl rfl ?_))
    first | refine gx_iff rfl (by dsimp only [gn_cmp] <;> decide) ?_ | refine gx_icf rfl (by dsimp only [gn_cmp] <;> decide) ?_
    (repeat (first | refine gx_run 999 80 rfl ?_ | refine gx_goto rfl rfl ?_))
    refine gx_call rfl rfl rfl ?_
    refine xw_said hX (by omega) ?_
    (repeat (first | refine gx_run 999 80 rfl ?_ | refine gx_goto rfl rfl ?_))
    refine gx_call rfl rfl rfl ?_
    refine xw_claimCount hT hg ?_
    (repeat (first | refine gx_run 999 80 rfl ?_ | refine gx_goto rfl rfl ?_))
    by_cases hl : A g < dC D g
    · first | refine gx_iff rfl (nI_ge hl (by omega)) ?_ | refine gx_icf rfl (nI_ge hl (by omega)) ?_
      (repeat (first | refine gx_run 999 80 rfl ?_ | refine gx_goto rfl rfl ?_))
      refine gw_zret rfl (Or.inr rfl) ?_
      rw [gb_t ⟨hu, hl⟩] at hQ
      exact hQ
    · first | refine gx_ift rfl (nI_le (by omega) (by omega)) ?_ | refine gx_ict rfl (nI_le (by omega) (by omega)) ?_
      (repeat (first | refine gx_run 999 80 rfl ?_ | refine gx_goto rfl rfl ?_))
      refine gw_zret rfl (Or.inl rfl) ?_
      rw [gb_f (fun q => hl q.2)] at hQ
      exact hQ
  · rw [gb_f hu]
    (repeat (first | refine gx_run 999 80 rfl ?_ | refine gx_goto rfl rfl ?_))
    first | refine gx_ift rfl (by dsimp only [gn_cmp] <;> decide) ?_ | refine gx_ict rfl (by dsimp only [gn_cmp] <;> decide) ?_
    (repeat (first | refine gx_run 999 80 rfl ?_ | refine gx_goto rfl rfl ?_))
    refine gw_zret rfl (Or.inl rfl) ?_
    rw [gb_f (fun q => hu q.1)] at hQ
    exact hQ
theorem e1_ne {n : Nat} (h : n < 100) : e1 n = -1 ↔ n = 0 := by
  cases n with
  | zero => exact ⟨fun _ => rfl, fun _ => rfl⟩
  | succ n => exact ⟨fun e => absurd e (nI_ne1 (by omega)), fun e => by omega⟩

theorem xw_canBeTold (hW : gW D) (hX : xR (σ 4) A) (hA : wA2 D A) {g : Nat} (hg : g < dG D) (hQ : Q (some (.int (gb ((A 18).testBit g = true ∧ 0 < A g ∧ A (6 + g) = 0)))) σ) : gn_W (d + 2) 29 0 [.ref 3, .int (nI g)] [] σ Q := by
  have hle := hW.1
  have hc := hW.2.2.2.2.1 g hg
  have ha := hA.1 g hg
  have hh := hW.2.1
  (repeat (first | refine gx_run 999 80 rfl ?_ | refine gx_goto rfl rfl ?_))
  refine gx_call rfl rfl rfl ?_
  refine xw_isUp hX hA.2.2.2.1 (by omega) ?_
  by_cases hu : (A 18).testBit g = true
  · rw [gb_t hu]
    (repeat (first | refine gx_run 999 80 rfl ?_ | refine gx_goto rfl rfl ?_))
    first | refine gx_iff rfl (by dsimp only [gn_cmp] <;> decide) ?_ | refine gx_icf rfl (by dsimp only [gn_cmp] <;> decide) ?_
    (repeat (first | refine gx_run 999 80 rfl ?_ | refine gx_goto rfl rfl ?_))
    refine gx_call rfl rfl rfl ?_
    refine xw_said hX (by omega) ?_
    (repeat (first | refine gx_run 999 80 rfl ?_ | refine gx_goto rfl rfl ?_))
    by_cases hl : 0 < A g
    · first | refine gx_iff rfl (nI_nle hl (by omega)) ?_ | refine gx_icf rfl (nI_nle hl (by omega)) ?_
      (repeat (first | refine gx_run 999 80 rfl ?_ | refine gx_goto rfl rfl ?_))
      refine gx_call rfl rfl rfl ?_
      refine xw_toldBy hX (by omega) ?_
      (repeat (first | refine gx_run 999 80 rfl ?_ | refine gx_goto rfl rfl ?_))
      by_cases hb : A (6 + g) = 0
      · first | refine gx_iff rfl (fun q => q ((e1_ne (by omega)).mpr hb)) ?_ | refine gx_icf rfl (fun q => q ((e1_ne (by omega)).mpr hb)) ?_
        (repeat (first | refine gx_run 999 80 rfl ?_ | refine gx_goto rfl rfl ?_))
        refine gw_zret rfl (Or.inr rfl) ?_
        rw [gb_t ⟨hu, hl, hb⟩] at hQ
        exact hQ
      · first | refine gx_ift rfl (fun q => hb ((e1_ne (by omega)).mp q)) ?_ | refine gx_ict rfl (fun q => hb ((e1_ne (by omega)).mp q)) ?_
        (repeat (first | refine gx_run 999 80 rfl ?_ | refine gx_goto rfl rfl ?_))
        refine gw_zret rfl (Or.inl rfl) ?_
        rw [gb_f (fun q => hb q.2.2)] at hQ
        exact hQ
    · first | refine gx_ift rfl (nI_le (b := 0) (by omega) (by omega)) ?_ | refine gx_ict rfl (nI_le (b := 0) (by omega) (by omega)) ?_
      (repeat (first | refine gx_run 999 80 rfl ?_ | refine gx_goto rfl rfl ?_))
      refine gw_zret rfl (Or.inl rfl) ?_
      rw [gb_f (fun q => hl q.2.1)] at hQ
      exact hQ
  · rw [gb_f hu]
    (repeat (first | refine gx_run 999 80 rfl ?_ | refine gx_goto rfl rfl ?_))
    first | refine gx_ift rfl (by dsimp only [gn_cmp] <;> decide) ?_ | refine gx_ict rfl (by dsimp only [gn_cmp] <;> decide) ?_
    (repeat (first | refine gx_run 999 80 rfl ?_ | refine gx_goto rfl rfl ?_))
    refine gw_zret rfl (Or.inl rfl) ?_
    rw [gb_f (fun q => hu q.1)] at hQ
    exact hQ
theorem xw_canContradict (hW : gW D) (hX : xR (σ 4) A) (hA : wA2 D A) {g h : Nat} (hg : g < dG D) (hh : h < dH D) (hQ : Q (some (.int (gb (0 < A (20 + h) ∧ (A 18).testBit g = true ∧ 0 < A g ∧ A (6 + g) = 0)))) σ) : gn_W (d + 3) 30 0 [.ref 3, .int (nI h), .int (nI g)] [] σ Q := by
  have hh4 := hW.2.1
  have hn := hA.2.2.1 h (by omega)
  (repeat (first | refine gx_run 999 80 rfl ?_ | refine gx_goto rfl rfl ?_))
  refine gx_call rfl rfl rfl ?_
  refine xw_noesLeft hX (by omega) ?_
  (repeat (first | refine gx_run 999 80 rfl ?_ | refine gx_goto rfl rfl ?_))
  by_cases hl : 0 < A (20 + h)
  · first | refine gx_iff rfl (nI_nle hl (by omega)) ?_ | refine gx_icf rfl (nI_nle hl (by omega)) ?_
    (repeat (first | refine gx_run 999 80 rfl ?_ | refine gx_goto rfl rfl ?_))
    refine gx_call rfl rfl rfl ?_
    refine xw_canBeTold hW hX hA hg ?_
    by_cases ho : (A 18).testBit g = true ∧ 0 < A g ∧ A (6 + g) = 0
    · rw [gb_t ho]
      (repeat (first | refine gx_run 999 80 rfl ?_ | refine gx_goto rfl rfl ?_))
      first | refine gx_iff rfl (by dsimp only [gn_cmp] <;> decide) ?_ | refine gx_icf rfl (by dsimp only [gn_cmp] <;> decide) ?_
      (repeat (first | refine gx_run 999 80 rfl ?_ | refine gx_goto rfl rfl ?_))
      refine gw_zret rfl (Or.inr rfl) ?_
      rw [gb_t ⟨hl, ho⟩] at hQ
      exact hQ
    · rw [gb_f ho]
      (repeat (first | refine gx_run 999 80 rfl ?_ | refine gx_goto rfl rfl ?_))
      first | refine gx_ift rfl (by dsimp only [gn_cmp] <;> decide) ?_ | refine gx_ict rfl (by dsimp only [gn_cmp] <;> decide) ?_
      (repeat (first | refine gx_run 999 80 rfl ?_ | refine gx_goto rfl rfl ?_))
      refine gw_zret rfl (Or.inl rfl) ?_
      rw [gb_f (fun q => ho q.2)] at hQ
      exact hQ
  · first | refine gx_ift rfl (nI_le (b := 0) (by omega) (by omega)) ?_ | refine gx_ict rfl (nI_le (b := 0) (by omega) (by omega)) ?_
    (repeat (first | refine gx_run 999 80 rfl ?_ | refine gx_goto rfl rfl ?_))
    refine gw_zret rfl (Or.inl rfl) ?_
    rw [gb_f (fun q => hl q.1)] at hQ
    exact hQ
/-- who was TOLD -/
def sT (D : gD) (A : gA) : Int32 := gf (fun g s => if A (6 + g) = 0 then s else s ||| bt g) (dG D) 0
theorem xw_whoWasTold (hT : gT 28 σ D) (hX : xR (σ 4) A) (hA : wA2 D A) (hQ : Q (some (.int (sT D A))) σ) : gn_W (d + 2) 37 0 [.ref 3, .ref 28] [] σ Q := by
  have hle := hT.1.1
  have hh := hT.1.2.1
  (refine gw_run 4 80 rfl ?_)
  refine gw_for (dG D) (fun g s => if A (6 + g) = 0 then s else s ||| bt g) (fun _ _ => True) (fun i y => [.ref 3, .ref 28, .int y, .int (nI i)]) (fun _ => σ) 0 trivial (fun _ _ _ _ => trivial) ?_ ?_
  · intro i y hi _ hn
    have ha := hA.1 i hi
    (repeat (first | refine gx_run 999 80 rfl ?_ | refine gx_goto rfl rfl ?_))
    rw [hT.2.2.2.1]
    first | refine gx_iff rfl (nI_ge hi (by omega)) ?_ | refine gx_icf rfl (nI_ge hi (by omega)) ?_
    (repeat (first | refine gx_run 999 80 rfl ?_ | refine gx_goto rfl rfl ?_))
    refine gx_call rfl rfl rfl ?_
    refine xw_toldBy hX (by omega) ?_
    (repeat (first | refine gx_run 999 80 rfl ?_ | refine gx_goto rfl rfl ?_))
    by_cases hb : A (6 + i) = 0
    · simp only [if_pos hb] at hn
      first | refine gx_ift rfl ((e1_ne (by omega)).mpr hb) ?_ | refine gx_ict rfl ((e1_ne (by omega)).mpr hb) ?_
      (repeat (first | refine gx_run 999 80 rfl ?_ | refine gx_goto rfl rfl ?_))
      refine gw_goto rfl ?_
      rw [nI_1]
      exact hn
    · simp only [if_neg hb] at hn
      first | refine gx_iff rfl (fun q => hb ((e1_ne (by omega)).mp q)) ?_ | refine gx_icf rfl (fun q => hb ((e1_ne (by omega)).mp q)) ?_
      (repeat (first | refine gx_run 999 80 rfl ?_ | refine gx_goto rfl rfl ?_))
      refine gw_goto rfl ?_
      rw [nI_1]
      exact hn
  · intro _
    (repeat (first | refine gx_run 999 80 rfl ?_ | refine gx_goto rfl rfl ?_))
    rw [hT.2.2.2.1]
    first | refine gx_ift rfl (nI_le (Nat.le_refl _) (by omega)) ?_ | refine gx_ict rfl (nI_le (Nat.le_refl _) (by omega)) ?_
    (repeat (first | refine gx_run 999 80 rfl ?_ | refine gx_goto rfl rfl ?_))
    refine gx_iret rfl rfl ?_
    exact hQ
/-- JOY when he was TOLD, or NONE -/
def jT (D : gD) (A : gA) (g : Nat) : Int32 := if A (6 + g) = 0 then -1 else nI (jP D g (A (6 + g) - 1) (A (12 + g) - 1) + (A (12 + g) - 1))
theorem e1_pos {n : Nat} (h : n ≠ 0) : e1 n = nI (n - 1) := by
  cases n with
  | zero => exact absurd rfl h
  | succ n => rfl
theorem xw_joyWhenTold (hT : gT 28 σ D) (hX : xR (σ 4) A) (hA : wA2 D A) {g : Nat} (hg : g < dG D) (hQ : Q (some (.int (jT D A g))) σ) : gn_W (d + 4) 38 0 [.ref 3, .ref 28, .int (nI g)] [] σ Q := by
  have hle := hT.1.1
  have hh := hT.1.2.1
  have hc := hT.1.2.2.2.2.1 g hg
  have ha := hA.1 g hg
  (repeat (first | refine gx_run 999 80 rfl ?_ | refine gx_goto rfl rfl ?_))
  refine gx_call rfl rfl rfl ?_
  refine xw_toldBy hX (by omega) ?_
  (repeat (first | refine gx_run 999 80 rfl ?_ | refine gx_goto rfl rfl ?_))
  refine gx_call rfl rfl rfl ?_
  refine xw_toldAt hX (by omega) ?_
  (repeat (first | refine gx_run 999 80 rfl ?_ | refine gx_goto rfl rfl ?_))
  refine gx_call rfl rfl rfl ?_
  unfold jT at hQ
  by_cases hb : A (6 + g) = 0
  · rw [if_pos hb] at hQ
    rw [hb]
    refine xw_joyOfN hT hg ?_
    (repeat (first | refine gx_run 999 80 rfl ?_ | refine gx_goto rfl rfl ?_))
    refine gx_iret rfl rfl ?_
    exact hQ
  · rw [if_neg hb] at hQ
    have hb2 : A (12 + g) ≠ 0 := fun q => hb (ha.2.2.1.mpr q)
    rw [e1_pos hb, e1_pos hb2]
    refine xw_joyOf hT hg (by omega) (by omega) ?_
    rw [if_pos (by omega)]
    (repeat (first | refine gx_run 999 80 rfl ?_ | refine gx_goto rfl rfl ?_))
    refine gx_iret rfl rfl ?_
    exact hQ
/-- the most JOY of all his claims by the host who told him -/
def jM (D : gD) (A : gA) (g : Nat) : Int32 := if A (6 + g) = 0 then -1 else nI (mxJ D g (A (6 + g) - 1) 0 (dC D g))
/-- MEANLY -/
def sM (D : gD) (A : gA) : Int32 := gf (fun g s => if jT D A g < jM D A g then s ||| bt g else s) (dG D) 0
theorem xw_meanly (hT : gT 28 σ D) (hX : xR (σ 4) A) (hA : wA2 D A) (hQ : Q (some (.int (sM D A))) σ) : gn_W (d + 5) 39 0 [.ref 3, .ref 28] [] σ Q := by
  have hle := hT.1.1
  have hh := hT.1.2.1
  (refine gw_run 4 80 rfl ?_)
  refine gw_for (dG D) (fun g s => if jT D A g < jM D A g then s ||| bt g else s) (fun _ _ => True) (fun i y => [.ref 3, .ref 28, .int y, .int (nI i)]) (fun _ => σ) 0 trivial (fun _ _ _ _ => trivial) ?_ ?_
  · intro i y hi _ hn
    have ha := hA.1 i hi
    have hc := hT.1.2.2.2.2.1 i hi
    (repeat (first | refine gx_run 999 80 rfl ?_ | refine gx_goto rfl rfl ?_))
    rw [hT.2.2.2.1]
    first | refine gx_iff rfl (nI_ge hi (by omega)) ?_ | refine gx_icf rfl (nI_ge hi (by omega)) ?_
    (repeat (first | refine gx_run 999 80 rfl ?_ | refine gx_goto rfl rfl ?_))
    refine gx_call rfl rfl rfl ?_
    refine xw_joyWhenTold hT hX hA hi ?_
    (repeat (first | refine gx_run 999 80 rfl ?_ | refine gx_goto rfl rfl ?_))
    refine gx_call rfl rfl rfl ?_
    refine xw_toldBy hX (by omega) ?_
    (repeat (first | refine gx_run 999 80 rfl ?_ | refine gx_goto rfl rfl ?_))
    refine gx_call rfl rfl rfl ?_
    have key : gn_W (d + 4) 80 0 [.ref 28, .int (nI 0), .int (nI i), .int (e1 (A (6 + i)))] [] σ (fun rv σ' => rv = some (.int (jM D A i)) ∧ σ' = σ) := by
      unfold jM
      by_cases hb : A (6 + i) = 0
      · rw [if_pos hb, hb]
        exact xw_mjfN hT hi (by omega) ⟨rfl, rfl⟩
      · rw [if_neg hb, e1_pos hb]
        exact xw_mjf hT hi (by omega) (by omega) ⟨rfl, rfl⟩
    refine gw_mono key ?_
    rintro rv σ' ⟨rfl, rfl⟩
    (repeat (first | refine gx_run 999 80 rfl ?_ | refine gx_goto rfl rfl ?_))
    by_cases hl : jT D A i < jM D A i
    · simp only [if_pos hl] at hn
      first | refine gx_iff rfl (fun q => absurd hl (Int32.not_lt.mpr q)) ?_ | refine gx_icf rfl (fun q => absurd hl (Int32.not_lt.mpr q)) ?_
      (repeat (first | refine gx_run 999 80 rfl ?_ | refine gx_goto rfl rfl ?_))
      refine gw_goto rfl ?_
      rw [nI_1]
      exact hn
    · simp only [if_neg hl] at hn
      first | refine gx_ift rfl (Int32.not_lt.mp hl) ?_ | refine gx_ict rfl (Int32.not_lt.mp hl) ?_
      (repeat (first | refine gx_run 999 80 rfl ?_ | refine gx_goto rfl rfl ?_))
      refine gw_goto rfl ?_
      rw [nI_1]
      exact hn
  · intro _
    (repeat (first | refine gx_run 999 80 rfl ?_ | refine gx_goto rfl rfl ?_))
    rw [hT.2.2.2.1]
    first | refine gx_ift rfl (nI_le (Nat.le_refl _) (by omega)) ?_ | refine gx_ict rfl (nI_le (Nat.le_refl _) (by omega)) ?_
    (repeat (first | refine gx_run 999 80 rfl ?_ | refine gx_goto rfl rfl ?_))
    refine gx_iret rfl rfl ?_
    exact hQ
/-- LEAST PLEASED: who, and how much -/
def sL (D : gD) (A : gA) : Int32 × Int32 := gf (fun g y => if ¬ jT D A g = -1 ∧ (y.1 = -1 ∨ jT D A g < y.2) then (nI g, jT D A g) else y) (dG D) (-1, 0)
theorem xw_least (hT : gT 28 σ D) (hX : xR (σ 4) A) (hA : wA2 D A) (hQ : Q (some (.int (sL D A).1)) σ) : gn_W (d + 5) 40 0 [.ref 3, .ref 28] [] σ Q := by
  have hle := hT.1.1
  (refine gw_run 7 80 rfl ?_)
  refine gw_for (dG D) (fun g y => if ¬ jT D A g = -1 ∧ (y.1 = -1 ∨ jT D A g < y.2) then (nI g, jT D A g) else y) (fun _ _ => True) (fun i y => [.ref 3, .ref 28, .int y.1, .int y.2, .int (nI i)]) (fun _ => σ) ((-1 : Int32), (0 : Int32)) trivial (fun _ _ _ _ => trivial) ?_ ?_
  · intro i y hi _ hn
    (repeat (first | refine gx_run 999 80 rfl ?_ | refine gx_goto rfl rfl ?_))
    rw [hT.2.2.2.1]
    first | refine gx_iff rfl (nI_ge hi (by omega)) ?_ | refine gx_icf rfl (nI_ge hi (by omega)) ?_
    (repeat (first | refine gx_run 999 80 rfl ?_ | refine gx_goto rfl rfl ?_))
    refine gx_call rfl rfl rfl ?_
    refine xw_joyWhenTold hT hX hA hi ?_
    (repeat (first | refine gx_run 999 80 rfl ?_ | refine gx_goto rfl rfl ?_))
    by_cases h1 : jT D A i = -1
    · rw [if_neg (fun q => q.1 h1)] at hn
      first | refine gx_ift rfl (h1) ?_ | refine gx_ict rfl (h1) ?_
      (repeat (first | refine gx_run 999 80 rfl ?_ | refine gx_goto rfl rfl ?_))
      refine gw_goto rfl ?_
      rw [nI_1]
      exact gx_drop [_, _, _, _, _] [_] (by rfl) hn
    · first | refine gx_iff rfl (h1) ?_ | refine gx_icf rfl (h1) ?_
      (repeat (first | refine gx_run 999 80 rfl ?_ | refine gx_goto rfl rfl ?_))
      by_cases h2 : y.1 = -1
      · rw [if_pos ⟨h1, Or.inl h2⟩] at hn
        first | refine gx_ift rfl (h2) ?_ | refine gx_ict rfl (h2) ?_
        (repeat (first | refine gx_run 999 80 rfl ?_ | refine gx_goto rfl rfl ?_))
        refine gw_goto rfl ?_
        rw [nI_1]
        exact gx_drop [_, _, _, _, _] [_] (by rfl) hn
      · first | refine gx_iff rfl (h2) ?_ | refine gx_icf rfl (h2) ?_
        (repeat (first | refine gx_run 999 80 rfl ?_ | refine gx_goto rfl rfl ?_))
        by_cases h3 : jT D A i < y.2
        · rw [if_pos ⟨h1, Or.inr h3⟩] at hn
          first | refine gx_iff rfl (fun q => absurd h3 (Int32.not_lt.mpr q)) ?_ | refine gx_icf rfl (fun q => absurd h3 (Int32.not_lt.mpr q)) ?_
          (repeat (first | refine gx_run 999 80 rfl ?_ | refine gx_goto rfl rfl ?_))
          refine gw_goto rfl ?_
          rw [nI_1]
          exact gx_drop [_, _, _, _, _] [_] (by rfl) hn
        · rw [if_neg (fun q => q.2.elim h2 h3)] at hn
          first | refine gx_ift rfl (Int32.not_lt.mp h3) ?_ | refine gx_ict rfl (Int32.not_lt.mp h3) ?_
          (repeat (first | refine gx_run 999 80 rfl ?_ | refine gx_goto rfl rfl ?_))
          refine gw_goto rfl ?_
          rw [nI_1]
          exact gx_drop [_, _, _, _, _] [_] (by rfl) hn
  · intro _
    (repeat (first | refine gx_run 999 80 rfl ?_ | refine gx_goto rfl rfl ?_))
    rw [hT.2.2.2.1]
    first | refine gx_ift rfl (nI_le (Nat.le_refl _) (by omega)) ?_ | refine gx_ict rfl (nI_le (Nat.le_refl _) (by omega)) ?_
    (repeat (first | refine gx_run 999 80 rfl ?_ | refine gx_goto rfl rfl ?_))
    refine gx_iret rfl rfl ?_
    exact hQ
end
