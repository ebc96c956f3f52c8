/-! the class's deeds -/
/-- what can be undone, one more -/
def bP (c : Nat) (A : gA) (B : Nat → gA) : Nat → gA := fun i => if c < 30 then (if i = c then A else B i) else (if i = 29 then A else B (i + 1))
def xP (σ : gn_Mem) (c nx : Nat) (B : Nat → gA) : Prop := c ≤ 30 ∧ nx < 30 ∧ σ 5 2 = nI c ∧ σ 5 1 = nI nx ∧ ∀ i, i < c → xR (fun j => σ 6 (28 * ((nx + 30 - c + i) % 30) + j)) (B i)
def mP (σ : gn_Mem) (c : Nat) (B : Nat → gA) : Prop := c ≤ 30 ∧ σ 44 10 = nI c ∧ ∀ i, i < c → mR (fun k => σ 45 (87 + 29 * i + k)) (B i)
theorem iP.x {σ : gn_Mem} {D : gD} {c nx : Nat} {B : Nat → gA} (h : iP σ D c nx B) : xP σ c nx B := ⟨h.1, h.2.1, h.2.2.1, h.2.2.2.2.1, fun i hi => (h.2.2.2.2.2 i hi).2.2⟩
theorem iP.m {σ : gn_Mem} {D : gD} {c nx : Nat} {B : Nat → gA} (h : iP σ D c nx B) : mP σ c B := ⟨h.1, h.2.2.2.1, fun i hi => (h.2.2.2.2.2 i hi).2.1⟩
theorem iP.mk' {σ : gn_Mem} {D : gD} {c nx : Nat} {B : Nat → gA} (h1 : xP σ c nx B) (h2 : mP σ c B) (h3 : ∀ i, i < c → wA2 D (B i)) : iP σ D c nx B := ⟨h1.1, h1.2.1, h1.2.2.1, h2.2.1, h1.2.2.2.1, fun i hi => ⟨h3 i hi, h2.2.2 i hi, h1.2.2.2.2 i hi⟩⟩
theorem bP_w {D : gD} {c : Nat} {A : gA} {B : Nat → gA} (hc : c ≤ 30) (hA : wA2 D A) (hB : ∀ i, i < c → wA2 D (B i)) : ∀ i, i < min 30 (c + 1) → wA2 D (bP c A B i) := by
  intro i hi
  unfold bP
  split
  · split
    · exact hA
    · exact hB i (by omega)
  · split
    · exact hA
    · exact hB (i + 1) (by omega)
theorem xP.fr {σ σ' : gn_Mem} {c nx : Nat} {B : Nat → gA} (h : xP σ c nx B) (e5 : σ' 5 = σ 5) (e6 : σ' 6 = σ 6) : xP σ' c nx B := by
  unfold xP at h ⊢
  rw [e5, e6]
  exact h
theorem min30 {c : Nat} (h : c ≤ 30) : (if nI (c + 1) < 30 then nI (c + 1) else (30 : Int32)) = nI (min 30 (c + 1)) := by
  have : ∀ c, c ≤ 30 → (if nI (c + 1) < 30 then nI (c + 1) else (30 : Int32)) = nI (min 30 (c + 1)) := by decide
  exact this c h
theorem rem30 {n : Nat} (h : n < 60) : nI n - nI n / 30 * 30 = nI (n % 30) := by
  have : ∀ n, n < 60 → nI n - nI n / 30 * 30 = nI (n % 30) := by decide
  exact this n h
section
variable {d : Nat} {σ : gn_Mem} {Q : Option Value → gn_Mem → Prop} {D : gD} {A : gA}
theorem xw_forget (hQ : Q none (gn_up σ 5 2 0)) : gn_W d 41 0 [.ref 5] [] σ Q := by
  (repeat (first | refine gx_run 999 80 rfl ?_ | refine gx_goto rfl rfl ?_))
  refine gw_vret rfl ?_
  exact hQ
theorem ring_1 {c nx i : Nat} (hc : c < 30) (hn : nx < 30) (hi : i < c) : ((nx + 1) % 30 + 30 - (c + 1) + i) % 30 = (nx + 30 - c + i) % 30 ∧ (nx + 30 - c + i) % 30 ≠ nx := by omega
theorem ring_2 {nx i : Nat} (hn : nx < 30) (hi : i < 29) : ((nx + 1) % 30 + 30 - 30 + i) % 30 = (nx + 30 - 30 + (i + 1)) % 30 ∧ (nx + 30 - 30 + (i + 1)) % 30 ≠ nx := by omega
theorem xw_remember {c nx : Nat} {B : Nat → gA} (hP : xP σ c nx B) (hX : xR (σ 4) A) (hQ : ∀ σ' : gn_Mem, (∀ o, o ≠ 5 → o ≠ 6 → σ' o = σ o) → xP σ' (min 30 (c + 1)) ((nx + 1) % 30) (bP c A B) → Q none σ') : gn_W (d + 1) 42 0 [.ref 5, .ref 3] [] σ Q := by
  obtain ⟨hc, hn, h2, h1, hB⟩ := hP
  (repeat (first | refine gx_run 999 80 rfl ?_ | refine gx_goto rfl rfl ?_))
  rw [h1, show (28 : Int32) = nI 28 from rfl, pk_mul]
  have e0 : (0 : Int32).toNatClampNeg = 0 := by decide
  have e28 : (nI 28).toNatClampNeg = 28 := by decide
  refine gw_copy rfl rfl rfl rfl (by decide) (nI_pos (by omega)) (by decide) ?_ ?_ ?_
  · rw [e0, e28]; omega
  · rw [nI_clamp (by omega), e28]; omega
  rw [e0, e28, nI_clamp (by omega)]
  (repeat (first | refine gx_run 999 80 rfl ?_ | refine gx_goto rfl rfl ?_))
  have f1 : ∀ k, gn_upF σ 6 (va_cpy (σ 4) (σ 6) 0 (nx * 28) 28) 5 k = σ 5 k := fun k => gF_k (by omega)
  rw [f1, h1, nI_1]
  refine gw_irem rfl (by decide) ?_
  rw [rem30 (by omega)]
  (repeat (first | refine gx_run 999 80 rfl ?_ | refine gx_goto rfl rfl ?_))
  refine gw_vret rfl ?_
  have f2 : gn_up (gn_upF σ 6 (va_cpy (σ 4) (σ 6) 0 (nx * 28) 28)) 5 1 (nI ((nx + 1) % 30)) 5 2 = nI c := by
    rw [gu_k (by omega), f1, h2]
  rw [f2, nI_1, min30 hc]
  refine hQ _ (fun o a1 a2 => by rw [gu_o a1, gu_o a1, gn_upF_ne a2]) ⟨by omega, by omega, gu_s, by rw [gu_k (by omega), gu_s], ?_⟩
  have g6 : ∀ k, gn_up (gn_up (gn_upF σ 6 (va_cpy (σ 4) (σ 6) 0 (nx * 28) 28)) 5 1 (nI ((nx + 1) % 30))) 5 2 (nI (min 30 (c + 1))) 6 k = va_cpy (σ 4) (σ 6) 0 (nx * 28) 28 k := fun k => by
    rw [gu_k (by omega), gu_k (by omega), gn_upF_eq]
  have gin : ∀ j, j < 28 → va_cpy (σ 4) (σ 6) 0 (nx * 28) 28 (28 * nx + j) = σ 4 j := fun j hj => by
    rw [pk_cpy_in (by omega) (by omega)]
    congr 1
    omega
  have gout : ∀ p j, p ≠ nx → j < 28 → va_cpy (σ 4) (σ 6) 0 (nx * 28) 28 (28 * p + j) = σ 6 (28 * p + j) := fun p j hp hj => by
    rw [pk_cpy_out (by omega)]
  intro i hi j hj
  show gn_up (gn_up (gn_upF σ 6 (va_cpy (σ 4) (σ 6) 0 (nx * 28) 28)) 5 1 (nI ((nx + 1) % 30))) 5 2 (nI (min 30 (c + 1))) 6 (28 * (((nx + 1) % 30 + 30 - min 30 (c + 1) + i) % 30) + j) = _
  rw [g6]
  unfold bP
  by_cases hc30 : c < 30
  · simp only [if_pos hc30]
    rw [show min 30 (c + 1) = c + 1 by omega]
    by_cases ei : i = c
    · simp only [if_pos ei]
      rw [show ((nx + 1) % 30 + 30 - (c + 1) + i) % 30 = nx by omega, gin j hj]
      exact hX j hj
    · simp only [if_neg ei]
      have r := ring_1 hc30 hn (show i < c by omega)
      rw [r.1, gout _ _ r.2 hj]
      exact hB i (by omega) j hj
  · have hce : c = 30 := by omega
    subst hce
    simp only [if_neg hc30]
    rw [show min 30 (30 + 1) = 30 by omega]
    by_cases ei : i = 29
    · simp only [if_pos ei]
      rw [show ((nx + 1) % 30 + 30 - 30 + i) % 30 = nx by omega, gin j hj]
      exact hX j hj
    · simp only [if_neg ei]
      have r := ring_2 hn (show i < 29 by omega)
      rw [r.1, gout _ _ r.2 hj]
      exact hB (i + 1) (by omega) j hj
theorem gu_F {o k : Nat} {x : Int32} : gn_up σ o k x = gn_upF σ o (upd (σ o) k x) := rfl
theorem rho_s {g : Nat} (h : g < 18) : rho g = g := by unfold rho; rw [if_pos h]
theorem rho_n {g : Nat} (h : g < 4) : rho (18 + g) = 20 + g := by unfold rho; rw [if_neg (by omega), if_pos (by omega)]; omega
theorem vv_a {k n : Nat} (h : k < 6 ∨ 18 ≤ k) : vv k n = nI n := by unfold vv; rw [if_neg (by omega)]
theorem vv_b {k n : Nat} (h : 6 ≤ k ∧ k < 18) : vv k n = e1 n := by unfold vv; rw [if_pos h]
theorem xw_speak (hX : xR (σ 4) A) {g : Nat} (hg : g < 6) (hQ : ∀ σ' : gn_Mem, (∀ o, o ≠ 4 → σ' o = σ o) → xR (σ' 4) (aup A g (A g + 1)) → Q (some (.int (nI (A g)))) σ') : gn_W (d + 1) 28 0 [.ref 3, .int (nI g)] [] σ Q := by
  (repeat (first | refine gx_run 999 80 rfl ?_ | refine gx_goto rfl rfl ?_))
  refine gw_calls rfl rfl rfl ?_
  refine xw_isSeat hg ?_
  (repeat (first | refine gx_run 999 80 rfl ?_ | refine gx_goto rfl rfl ?_))
  first | refine gx_ift rfl (by dsimp only [gn_cmp] <;> decide) ?_ | refine gx_ict rfl (by dsimp only [gn_cmp] <;> decide) ?_
  (repeat (first | refine gx_run 999 80 rfl ?_ | refine gx_goto rfl rfl ?_))
  rw [Int32.zero_add]
  refine gx_ld g rfl (by omega) (hX.said hg) rfl rfl rfl ?_
  (repeat (first | refine gx_run 999 80 rfl ?_ | refine gx_goto rfl rfl ?_))
  refine gx_st g rfl (by omega) rfl rfl rfl ?_
  rw [nI_1]
  (repeat (first | refine gx_run 999 80 rfl ?_ | refine gx_goto rfl rfl ?_))
  rw [Int32.zero_add]
  refine gx_ld g rfl (by omega) gu_s rfl rfl rfl ?_
  (repeat (first | refine gx_run 999 80 rfl ?_ | refine gx_goto rfl rfl ?_))
  refine gx_iret rfl rfl ?_
  rw [nI_pred]
  refine hQ _ (fun o h => gu_o h) ?_
  rw [gn_up_eq]
  have h := hX.upd (j := g) (n := A g + 1) (v := nI (A g + 1)) (by omega) (by rw [rho_s (by omega), vv_a (by omega)])
  rw [rho_s (by omega)] at h
  exact h
theorem xw_tell (hT : gT 28 σ D) (hX : xR (σ 4) A) {g h : Nat} (hg : g < dG D) (hh : h < dH D) (hs : 0 < A g) (hs2 : A g ≤ dC D g) (hQ : ∀ σ' : gn_Mem, (∀ o, o ≠ 4 → σ' o = σ o) → xR (σ' 4) (aup (aup A (6 + g) (h + 1)) (12 + g) (A g)) → Q (some (.int (nI (jP D g h (A g - 1) + (A g - 1))))) σ') : gn_W (d + 4) 33 0 [.ref 3, .ref 28, .int (nI h), .int (nI g)] [] σ Q := by
  have hle := hT.1.1
  have hhe := hT.1.2.1
  have hc := hT.1.2.2.2.2.1 g hg
  (repeat (first | refine gx_run 999 80 rfl ?_ | refine gx_goto rfl rfl ?_))
  refine gw_calls rfl rfl rfl ?_
  refine xw_isSeat (by omega) ?_
  (repeat (first | refine gx_run 999 80 rfl ?_ | refine gx_goto rfl rfl ?_))
  first | refine gx_ift rfl (by dsimp only [gn_cmp] <;> decide) ?_ | refine gx_ict rfl (by dsimp only [gn_cmp] <;> decide) ?_
  (repeat (first | refine gx_run 999 80 rfl ?_ | refine gx_goto rfl rfl ?_))
  refine gx_call rfl rfl rfl ?_
  refine xw_foc hX (by omega) (by omega) ?_
  (repeat (first | refine gx_run 999 80 rfl ?_ | refine gx_goto rfl rfl ?_))
  refine gx_st (6 + g) (nI_add 6 g) (by omega) rfl rfl rfl ?_
  (repeat (first | refine gx_run 999 80 rfl ?_ | refine gx_goto rfl rfl ?_))
  refine gx_st (12 + g) (nI_add 12 g) (by omega) rfl rfl rfl ?_
  (repeat (first | refine gx_run 999 80 rfl ?_ | refine gx_goto rfl rfl ?_))
  refine gx_call rfl rfl rfl ?_
  refine xw_joyOf (D := D) (gT_fr hT (fun o a b => by rw [gu_o (show o ≠ 4 by omega), gu_o (show o ≠ 4 by omega)])) hg hh (by omega) ?_
  rw [if_pos (by omega)]
  (repeat (first | refine gx_run 999 80 rfl ?_ | refine gx_goto rfl rfl ?_))
  refine gx_iret rfl rfl ?_
  refine hQ _ (fun o h => by rw [gu_o h, gu_o h]) ?_
  rw [gn_up_eq, gn_up_eq]
  have h1 := hX.upd (j := 6 + g) (n := h + 1) (v := nI h) (by omega) (by rw [rho_s (by omega), vv_b (by omega)]; rfl)
  rw [rho_s (by omega)] at h1
  have h2 := h1.upd (j := 12 + g) (n := A g) (v := nI (A g - 1)) (by omega) (by rw [rho_s (by omega), vv_b (by omega), e1_pos (by omega)])
  rw [rho_s (by omega)] at h2
  exact h2
theorem gladmin {a v : Nat} (ha : a ≤ 999999) (hv : v ≤ 1000) : (if nI (a + v) < 999999 then nI (a + v) else (999999 : Int32)) = nI (min 999999 (a + v)) := by
  by_cases h : a + v < 999999
  · have h1 : nI (a + v) < 999999 := nI_lt (b := 999999) h (by omega)
    rw [if_pos h1, Nat.min_eq_right (by omega)]
  · have h1 : ¬ nI (a + v) < 999999 := nI_nlt (b := 999999) (by omega) (by omega)
    rw [if_neg h1, Nat.min_eq_left (by omega)]
    rfl
theorem xw_addGlad (hX : xR (σ 4) A) (hA : A 24 ≤ 999999) {v : Nat} (hv : v ≤ 1000) (hQ : ∀ σ' : gn_Mem, (∀ o, o ≠ 4 → σ' o = σ o) → xR (σ' 4) (aup A 24 (min 999999 (A 24 + v))) → Q none σ') : gn_W (d + 1) 34 0 [.ref 3, .int (nI v)] [] σ Q := by
  (repeat (first | refine gx_run 999 80 rfl ?_ | refine gx_goto rfl rfl ?_))
  refine gx_ld 24 rfl (by omega) hX.gl rfl rfl rfl ?_
  (repeat (first | refine gx_run 999 80 rfl ?_ | refine gx_goto rfl rfl ?_))
  rw [nI_add, gladmin hA hv]
  refine gx_st 24 rfl (by omega) rfl rfl rfl ?_
  refine gw_vret rfl ?_
  refine hQ _ (fun o h => gu_o h) ?_
  rw [gn_up_eq]
  exact hX.upd (j := 24) (n := min 999999 (A 24 + v)) (by omega) rfl
/-- a NO of h to g -/
def aNo (D : gD) (A : gA) (h g : Nat) : gA := aup (aup (aup (aup A (6 + g) (h + 1)) (12 + g) (A g)) (20 + h) (A (20 + h) - 1)) 24 (min 999999 (A 24 + (jP D g h (A g - 1) + (A g - 1))))
theorem xw_contradict (hT : gT 28 σ D) (hX : xR (σ 4) A) (hA : A 24 ≤ 999999) {g h : Nat} (hg : g < dG D) (hh : h < dH D) (hs : 0 < A g) (hs2 : A g ≤ dC D g) (hn : 0 < A (20 + h)) (hn2 : A (20 + h) ≤ 9) (hQ : ∀ σ' : gn_Mem, (∀ o, o ≠ 4 → σ' o = σ o) → xR (σ' 4) (aNo D A h g) → Q (some (.int (nI (jP D g h (A g - 1) + (A g - 1))))) σ') : gn_W (d + 5) 31 0 [.ref 3, .ref 28, .int (nI h), .int (nI g)] [] σ Q := by
  have hhe := hT.1.2.1
  have hle := hT.1.1
  have hc := hT.1.2.2.2.2.1 g hg
  have hj := hT.1.jP hg hh (k := A g - 1) (by omega)
  (repeat (first | refine gx_run 999 80 rfl ?_ | refine gx_goto rfl rfl ?_))
  refine gx_call rfl rfl rfl ?_
  refine xw_tell hT hX hg hh hs hs2 ?_
  intro σ1 f1 hX1
  (repeat (first | refine gx_run 999 80 rfl ?_ | refine gx_goto rfl rfl ?_))
  refine gx_call rfl rfl rfl ?_
  refine xw_noesLeft hX1 (by omega) ?_
  have en : aup (aup A (6 + g) (h + 1)) (12 + g) (A g) (20 + h) = A (20 + h) := by unfold aup; rw [if_neg (by omega), if_neg (by omega)]
  have eg : aup (aup A (6 + g) (h + 1)) (12 + g) (A g) 24 = A 24 := by unfold aup; rw [if_neg (by omega), if_neg (by omega)]
  rw [en]
  (repeat (first | refine gx_run 999 80 rfl ?_ | refine gx_goto rfl rfl ?_))
  first | refine gx_iff rfl (nI_nle hn (by omega)) ?_ | refine gx_icf rfl (nI_nle hn (by omega)) ?_
  (repeat (first | refine gx_run 999 80 rfl ?_ | refine gx_goto rfl rfl ?_))
  refine gx_ld (18 + h) (nI_add 18 h) (by omega) (by rw [hX1.no (by omega), en]) rfl rfl rfl ?_
  (repeat (first | refine gx_run 999 80 rfl ?_ | refine gx_goto rfl rfl ?_))
  refine gx_st (18 + h) (nI_add 18 h) (by omega) rfl rfl rfl ?_
  obtain ⟨u, hu⟩ : ∃ u, A (20 + h) = u + 1 := ⟨A (20 + h) - 1, by omega⟩
  rw [hu, nI_pred]
  have hX2 := hX1.upd (j := 18 + h) (n := u) (v := nI u) (by omega) (by rw [rho_n (by omega), vv_a (by omega)])
  rw [rho_n (by omega), ← gn_up_eq (σ := σ1) (o := 4)] at hX2
  (repeat (first | refine gx_run 999 80 rfl ?_ | refine gx_goto rfl rfl ?_))
  refine gx_call rfl rfl rfl ?_
  have eg2 : aup (aup (aup A (6 + g) (h + 1)) (12 + g) (A g)) (20 + h) u 24 = A 24 := by
    unfold aup
    rw [if_neg (by omega), if_neg (by omega), if_neg (by omega)]
  refine xw_addGlad hX2 (by rw [eg2]; exact hA) (by omega) ?_
  intro σ3 f3 hX3
  (repeat (first | refine gx_run 999 80 rfl ?_ | refine gx_goto rfl rfl ?_))
  refine gx_iret rfl rfl ?_
  refine hQ σ3 (fun o h => by rw [f3 o h, gu_o h, f1 o h]) ?_
  rw [eg2] at hX3
  unfold aNo
  rw [hu]
  exact hX3
/-- a half of a NO -/
def aSh (D : gD) (A : gA) (h g : Nat) : gA := aup (aup (aup A (6 + g) (h + 1)) (12 + g) (A g)) 24 (min 999999 (A 24 + (jP D g h (A g - 1) + (A g - 1)) / 2))
theorem half28 : ∀ v, v ≤ 40 → nI v / 2 = nI (v / 2) := by decide
theorem xw_shareNo (hT : gT 28 σ D) (hX : xR (σ 4) A) (hA : A 24 ≤ 999999) {g q : Nat} (hg : g < dG D) (hq : q < dG D) (hb : A (6 + q) ≠ 0) (hbl : A (6 + q) ≤ dH D) (hs : 0 < A g) (hs2 : A g ≤ dC D g) (hQ : ∀ σ' : gn_Mem, (∀ o, o ≠ 4 → σ' o = σ o) → xR (σ' 4) (aSh D A (A (6 + q) - 1) g) → Q (some (.int (nI ((jP D g (A (6 + q) - 1) (A g - 1) + (A g - 1)) / 2)))) σ') : gn_W (d + 5) 32 0 [.ref 3, .ref 28, .int (nI g), .int (nI q)] [] σ Q := by
  have hle := hT.1.1
  have hhe := hT.1.2.1
  have hc := hT.1.2.2.2.2.1 g hg
  have hj := hT.1.jP hg (h := A (6 + q) - 1) (by omega) (k := A g - 1) (by omega)
  (repeat (first | refine gx_run 999 80 rfl ?_ | refine gx_goto rfl rfl ?_))
  refine gx_call rfl rfl rfl ?_
  refine xw_toldBy hX (by omega) ?_
  rw [e1_pos hb]
  (repeat (first | refine gx_run 999 80 rfl ?_ | refine gx_goto rfl rfl ?_))
  refine gx_call rfl rfl rfl ?_
  refine xw_tell hT hX hg (by omega) hs hs2 ?_
  intro σ1 f1 hX1
  (repeat (first | refine gx_run 999 80 rfl ?_ | refine gx_goto rfl rfl ?_))
  refine gw_idiv rfl (by decide) ?_
  rw [half28 _ (by omega)]
  (repeat (first | refine gx_run 999 80 rfl ?_ | refine gx_goto rfl rfl ?_))
  refine gx_call rfl rfl rfl ?_
  have eg : aup (aup A (6 + g) (A (6 + q) - 1 + 1)) (12 + g) (A g) 24 = A 24 := by unfold aup; rw [if_neg (by omega), if_neg (by omega)]
  refine xw_addGlad hX1 (by rw [eg]; exact hA) (by omega) ?_
  intro σ2 f2 hX2
  (repeat (first | refine gx_run 999 80 rfl ?_ | refine gx_goto rfl rfl ?_))
  refine gx_iret rfl rfl ?_
  refine hQ σ2 (fun o h => by rw [f2 o h, f1 o h]) ?_
  rw [eg] at hX2
  exact hX2
/-- BED -/
def clr (u g : Nat) : Nat := if u.testBit g then u - 2 ^ g else u
theorem clr_eq : ∀ u, u < 64 → ∀ g, g < 6 → nI u &&& (bt g ^^^ -1) = nI (clr u g) := by decide +kernel
theorem clr_lt {u g : Nat} (h : u < 64) : clr u g < 64 := by
  have h1 := Nat.sub_le u (2 ^ g)
  unfold clr
  split <;> omega
def aBed (A : gA) (g : Nat) : gA := if A (6 + g) = 0 then aup (aup (aup A 18 (clr (A 18) g)) 19 (A 19 ||| 2 ^ g)) 25 (min 999999 (A 25 + 1)) else aup A 18 (clr (A 18) g)
theorem xw_retire (hX : xR (σ 4) A) (hA : wA2 D A) (hW : gW D) {g : Nat} (hg : g < dG D) (hQ : ∀ σ' : gn_Mem, (∀ o, o ≠ 4 → σ' o = σ o) → xR (σ' 4) (aBed A g) → Q (some (.int (gb (A (6 + g) = 0)))) σ') : gn_W (d + 2) 35 0 [.ref 3, .int (nI g)] [] σ Q := by
  have hle := hW.1
  have hhe := hW.2.1
  have ha := hA.1 g hg
  (repeat (first | refine gx_run 999 80 rfl ?_ | refine gx_goto rfl rfl ?_))
  refine gx_ld 22 rfl (by omega) hX.up rfl rfl rfl ?_
  (repeat (first | refine gx_run 999 80 rfl ?_ | refine gx_goto rfl rfl ?_))
  rw [clr_eq _ hA.2.2.2.1 _ (by omega)]
  refine gx_st 22 rfl (by omega) rfl rfl rfl ?_
  have hX1 : xR (gn_up σ 4 22 (nI (clr (A 18) g)) 4) (aup A 18 (clr (A 18) g)) := by
    rw [gn_up_eq]
    exact hX.upd (j := 22) (n := clr (A 18) g) (by omega) rfl
  (repeat (first | refine gx_run 999 80 rfl ?_ | refine gx_goto rfl rfl ?_))
  refine gx_call rfl rfl rfl ?_
  refine xw_toldBy hX1 (by omega) ?_
  rw [show aup A 18 (clr (A 18) g) (6 + g) = A (6 + g) from if_neg (by omega)]
  (repeat (first | refine gx_run 999 80 rfl ?_ | refine gx_goto rfl rfl ?_))
  unfold aBed at hQ
  by_cases hb : A (6 + g) = 0
  · simp only [if_pos hb] at hQ
    rw [gb_t hb] at hQ
    first | refine gx_ift rfl ((e1_ne (by omega)).mpr hb) ?_ | refine gx_ict rfl ((e1_ne (by omega)).mpr hb) ?_
    (repeat (first | refine gx_run 999 80 rfl ?_ | refine gx_goto rfl rfl ?_))
    refine gx_ld 23 rfl (by omega) hX1.wk rfl rfl rfl ?_
    (repeat (first | refine gx_run 999 80 rfl ?_ | refine gx_goto rfl rfl ?_))
    rw [show aup A 18 (clr (A 18) g) 19 = A 19 from if_neg (by omega), or_bit6 _ hA.2.2.2.2.1 _ (by omega)]
    refine gx_st 23 rfl (by omega) rfl rfl rfl ?_
    have hX2 : xR (gn_up (gn_up σ 4 22 (nI (clr (A 18) g))) 4 23 (nI (A 19 ||| 2 ^ g)) 4) (aup (aup A 18 (clr (A 18) g)) 19 (A 19 ||| 2 ^ g)) := by
      rw [gn_up_eq]
      exact hX1.upd (j := 23) (n := A 19 ||| 2 ^ g) (by omega) rfl
    (repeat (first | refine gx_run 999 80 rfl ?_ | refine gx_goto rfl rfl ?_))
    refine gx_ld 25 rfl (by omega) hX2.ins rfl rfl rfl ?_
    (repeat (first | refine gx_run 999 80 rfl ?_ | refine gx_goto rfl rfl ?_))
    have e25 : aup (aup A 18 (clr (A 18) g)) 19 (A 19 ||| 2 ^ g) 25 = A 25 := by unfold aup; rw [if_neg (by omega), if_neg (by omega)]
    rw [e25, nI_1, gladmin (v := 1) hA.2.2.2.2.2.2.1 (by omega)]
    refine gx_st 25 rfl (by omega) rfl rfl rfl ?_
    (repeat (first | refine gx_run 999 80 rfl ?_ | refine gx_goto rfl rfl ?_))
    refine gw_zret rfl (Or.inr rfl) ?_
    refine hQ _ (fun o h => by rw [gu_o h, gu_o h, gu_o h]) ?_
    rw [gn_up_eq]
    exact hX2.upd (j := 25) (n := min 999999 (A 25 + 1)) (by omega) rfl
  · simp only [if_neg hb] at hQ
    rw [gb_f hb] at hQ
    first | refine gx_iff rfl (fun q => hb ((e1_ne (by omega)).mp q)) ?_ | refine gx_icf rfl (fun q => hb ((e1_ne (by omega)).mp q)) ?_
    (repeat (first | refine gx_run 999 80 rfl ?_ | refine gx_goto rfl rfl ?_))
    refine gw_zret rfl (Or.inl rfl) ?_
    exact hQ _ (fun o h => gu_o h) hX1
end
