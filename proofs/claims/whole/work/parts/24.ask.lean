/-! couldBe, ask, write, feed -/
def fit (D : gD) (e : Nat) (T : Nat → Nat) (Z : Nat → Bool) (g : Nat) : Bool := (gfi (fun i => (dS D g).testBit (T i) != Z i) e).isNone
/-- COULD BE, as a number -/
def sCn (D : gD) (e : Nat) (T : Nat → Nat) (Z : Nat → Bool) : Nat → Nat
  | 0 => 0
  | n + 1 => sCn D e T Z n ||| (if fit D e T Z n then 2 ^ n else 0)
theorem sCn_lt {D : gD} {e : Nat} {T : Nat → Nat} {Z : Nat → Bool} {n : Nat} (hn : n ≤ 6) : sCn D e T Z n < 64 := by
  induction n with
  | zero => show 0 < 64; omega
  | succ n ih =>
    show sCn D e T Z n ||| (if fit D e T Z n then 2 ^ n else 0) < 2 ^ 6
    refine Nat.or_lt_two_pow (ih (by omega)) ?_
    split
    · exact Nat.pow_lt_pow_right (by omega) (by omega)
    · decide
theorem or_bit6 : ∀ a, a < 64 → ∀ t, t < 6 → nI a ||| bt t = nI (a ||| 2 ^ t) := by decide +kernel
theorem sCn_bit {D : gD} {e : Nat} {T : Nat → Nat} {Z : Nat → Bool} {n g : Nat} : (sCn D e T Z n).testBit g = (decide (g < n) && fit D e T Z g) := by
  induction n with
  | zero => simp [sCn]
  | succ n ih =>
    show (sCn D e T Z n ||| (if fit D e T Z n then 2 ^ n else 0)).testBit g = _
    rw [Nat.testBit_or, ih]
    by_cases h : g = n
    · subst h
      cases hf : fit D e T Z g <;> simp [Nat.testBit_two_pow]
    · cases hf : fit D e T Z n
      · simp
        by_cases h1 : g < n
        · have : g < n + 1 := by omega
          simp [h1, this]
        · have : ¬ g < n + 1 := by omega
          simp [h1, this]
      · simp only [if_true, Nat.testBit_two_pow]
        by_cases h1 : g < n
        · have : g < n + 1 := by omega
          simp [h1, this]
          omega
        · have : ¬ g < n + 1 := by omega
          simp [h1, this]
          omega
theorem gfi_isNone {p : Nat → Bool} {k : Nat} : (gfi p (k + 1)).isNone = ((gfi p k).isNone && !p k) := by
  have e : gfi p (k + 1) = (match gfi p k with
    | some k => some k
    | none => if p k then some k else none) := rfl
  rw [e]
  cases gfi p k with
  | some j => rfl
  | none => cases p k <;> rfl
theorem gb_z (t z : Bool) : gb (t = true) = nI z.toNat ↔ t = z := by cases t <;> cases z <;> decide
section
variable {d : Nat} {σ : gn_Mem} {Q : Option Value → gn_Mem → Prop} {D : gD} {A : gA} {e : Nat} {T : Nat → Nat} {Z : Nat → Bool}
theorem gx_bld {mi pc nx a b : Nat} {v : Int32} {lo r : List Value} {o len : Nat} {i w : Int32} (j : Nat) (hi : i = nI j) (hj : j < len) (hv : σ o j = w) (hcd : gn_cd mi pc = some (.baload, nx, a, b, v)) (hl : gn_ly o = .inl (true, len)) (hb : Nat.ble len 1000 = true) (k : gn_W d mi nx lo (.int w :: r) σ Q) : gn_W d mi pc lo (.int i :: .ref o :: r) σ Q := by
  have hlen : len ≤ 1000 := Nat.le_of_ble_eq_true hb
  subst hi
  refine gw_bald hcd hl (vp_in_nI hj (by omega)) ?_
  rw [nI_clamp (by omega), hv]
  exact k
theorem xw_fits (hT : gT 28 σ D) (hE : iE σ e T Z) {g : Nat} (hg : g < dG D) (hQ : Q (some (.int (gb (fit D e T Z g = true)))) σ) : gn_W (d + 3) 6 0 [.ref 22, .ref 28, .int (nI g)] [] σ Q := by
  have he := hE.1
  (refine gw_run 2 80 rfl ?_)
  refine gw_forE e (fun i => (dS D g).testBit (T i) != Z i) (fun i => [.ref 22, .ref 28, .int (nI g), .int (nI i)]) ?_ ?_ ?_
  · intro i hi hp hn
    have h1 := hE.2.2.2 i hi
    (repeat (first | refine gx_run 999 80 rfl ?_ | refine gx_goto rfl rfl ?_))
    rw [hE.2.1]
    first | refine gx_iff rfl (nI_ge hi (by omega)) ?_ | refine gx_icf rfl (nI_ge hi (by omega)) ?_
    (repeat (first | refine gx_run 999 80 rfl ?_ | refine gx_goto rfl rfl ?_))
    refine gx_ld i rfl (by omega) h1.2.1 rfl rfl rfl ?_
    refine gx_call rfl rfl rfl ?_
    refine xw_claimsTopic hT hg h1.1 ?_
    (repeat (first | refine gx_run 999 80 rfl ?_ | refine gx_goto rfl rfl ?_))
    refine gx_bld i rfl (by omega) h1.2.2.2.1 rfl rfl rfl ?_
    first | refine gx_ift rfl ((gb_z _ _).mpr (by simpa using hp)) ?_ | refine gx_ict rfl ((gb_z _ _).mpr (by simpa using hp)) ?_
    (repeat (first | refine gx_run 999 80 rfl ?_ | refine gx_goto rfl rfl ?_))
    refine gw_goto rfl ?_
    rw [nI_1]
    exact hn
  · intro i hi hp hs
    have h1 := hE.2.2.2 i hi
    (repeat (first | refine gx_run 999 80 rfl ?_ | refine gx_goto rfl rfl ?_))
    rw [hE.2.1]
    first | refine gx_iff rfl (nI_ge hi (by omega)) ?_ | refine gx_icf rfl (nI_ge hi (by omega)) ?_
    (repeat (first | refine gx_run 999 80 rfl ?_ | refine gx_goto rfl rfl ?_))
    refine gx_ld i rfl (by omega) h1.2.1 rfl rfl rfl ?_
    refine gx_call rfl rfl rfl ?_
    refine xw_claimsTopic hT hg h1.1 ?_
    (repeat (first | refine gx_run 999 80 rfl ?_ | refine gx_goto rfl rfl ?_))
    refine gx_bld i rfl (by omega) h1.2.2.2.1 rfl rfl rfl ?_
    first | refine gx_iff rfl (fun q => absurd ((gb_z _ _).mp q) (by simpa using hp)) ?_ | refine gx_icf rfl (fun q => absurd ((gb_z _ _).mp q) (by simpa using hp)) ?_
    (repeat (first | refine gx_run 999 80 rfl ?_ | refine gx_goto rfl rfl ?_))
    refine gw_zret rfl (Or.inl rfl) ?_
    rw [gb_f (by unfold fit; rw [hs]; simp)] at hQ
    exact hQ
  · intro hs
    (repeat (first | refine gx_run 999 80 rfl ?_ | refine gx_goto rfl rfl ?_))
    rw [hE.2.1]
    first | refine gx_ift rfl (nI_le (Nat.le_refl _) (by omega)) ?_ | refine gx_ict rfl (nI_le (Nat.le_refl _) (by omega)) ?_
    (repeat (first | refine gx_run 999 80 rfl ?_ | refine gx_goto rfl rfl ?_))
    refine gw_zret rfl (Or.inr rfl) ?_
    rw [gb_t (by unfold fit; rw [hs]; rfl)] at hQ
    exact hQ
theorem sC_gf {n : Nat} (hn : n ≤ 6) : gf (fun g s => if fit D e T Z g = true then s ||| bt g else s) n 0 = nI (sCn D e T Z n) := by
  induction n with
  | zero => rfl
  | succ n ih =>
    show (if fit D e T Z n = true then gf _ n 0 ||| bt n else gf _ n 0) = _
    rw [ih (by omega)]
    have hl := sCn_lt (D := D) (e := e) (T := T) (Z := Z) (n := n) (by omega)
    show _ = nI (sCn D e T Z n ||| (if fit D e T Z n then 2 ^ n else 0))
    cases hf : fit D e T Z n with
    | true => rw [if_pos rfl, or_bit6 _ hl _ (by omega)]; rfl
    | false => rw [if_neg (by simp)]; simp
theorem xw_whoFits (hT : gT 28 σ D) (hE : iE σ e T Z) (hQ : Q (some (.int (nI (sCn D e T Z (dG D))))) σ) : gn_W (d + 4) 5 0 [.ref 22, .ref 28] [] σ Q := by
  have hle := hT.1.1
  (refine gw_run 4 80 rfl ?_)
  refine gw_for (dG D) (fun g s => if fit D e T Z g = true then s ||| bt g else s) (fun _ _ => True) (fun i y => [.ref 22, .ref 28, .int y, .int (nI i)]) (fun _ => σ) 0 trivial (fun _ _ _ _ => trivial) ?_ ?_
  · intro i y hi _ hn
    (repeat (first | refine gx_run 999 80 rfl ?_ | refine gx_goto rfl rfl ?_))
    rw [hT.2.2.2.1]
    first | refine gx_iff rfl (nI_ge hi (by omega)) ?_ | refine gx_icf rfl (nI_ge hi (by omega)) ?_
    (repeat (first | refine gx_run 999 80 rfl ?_ | refine gx_goto rfl rfl ?_))
    refine gx_call rfl rfl rfl ?_
    refine xw_fits hT hE hi ?_
    (repeat (first | refine gx_run 999 80 rfl ?_ | refine gx_goto rfl rfl ?_))
    by_cases hf : fit D e T Z i = true
    · rw [if_pos hf] at hn
      rw [gb_t hf]
      first | refine gx_iff rfl (by dsimp only [gn_cmp] <;> decide) ?_ | refine gx_icf rfl (by dsimp only [gn_cmp] <;> decide) ?_
      (repeat (first | refine gx_run 999 80 rfl ?_ | refine gx_goto rfl rfl ?_))
      refine gw_goto rfl ?_
      rw [nI_1]
      exact hn
    · rw [if_neg hf] at hn
      rw [gb_f hf]
      first | refine gx_ift rfl (by dsimp only [gn_cmp] <;> decide) ?_ | refine gx_ict rfl (by dsimp only [gn_cmp] <;> decide) ?_
      (repeat (first | refine gx_run 999 80 rfl ?_ | refine gx_goto rfl rfl ?_))
      refine gw_goto rfl ?_
      rw [nI_1]
      exact hn
  · intro _
    (repeat (first | refine gx_run 999 80 rfl ?_ | refine gx_goto rfl rfl ?_))
    rw [hT.2.2.2.1]
    first | refine gx_ift rfl (nI_le (Nat.le_refl _) (by omega)) ?_ | refine gx_ict rfl (nI_le (Nat.le_refl _) (by omega)) ?_
    (repeat (first | refine gx_run 999 80 rfl ?_ | refine gx_goto rfl rfl ?_))
    refine gx_iret rfl rfl ?_
    rw [sC_gf hle]
    exact hQ
theorem mw_couldBe (hM : gM σ D) (hE : iE σ e T Z) (hQ : Q (some (.int (nI (sCn D e T Z (dG D))))) σ) : gn_W (d + 2) 196 0 [.ref 44] [] σ Q := by
  have hle := hM.1.1
  have he := hE.1
  (refine gw_run 4 80 rfl ?_)
  refine gw_for (dG D) (fun g s => if fit D e T Z g = true then s ||| bt g else s) (fun _ _ => True) (fun i y => [.ref 44, .int y, .int (nI i)]) (fun _ => σ) 0 trivial (fun _ _ _ _ => trivial) ?_ ?_
  · intro i y hi _ hn
    (repeat (first | refine gx_run 999 80 rfl ?_ | refine gx_goto rfl rfl ?_))
    rw [hM.2.2.2.1]
    first | refine gx_iff rfl (nI_ge hi (by omega)) ?_ | refine gx_icf rfl (nI_ge hi (by omega)) ?_
    (refine gw_run 17 80 rfl ?_)
    refine gw_for e (fun k (s : Bool) => s && ((dS D i).testBit (T k) == Z k)) (fun k s => s = (gfi (fun i_1 => (dS D i).testBit (T i_1) != Z i_1) k).isNone) (fun k s => [.ref 44, .int y, .int (nI i), .int (gb (s = true)), .int (nI k)]) (fun _ => σ) true rfl ?_ ?_ ?_
    · intro k s hk hs
      rw [hs, gfi_isNone]
      cases (dS D i).testBit (T k) <;> cases Z k <;> rfl
    · intro k s hk hs hn2
      have h1 := hE.2.2.2 k hk
      (repeat (first | refine gx_run 999 80 rfl ?_ | refine gx_goto rfl rfl ?_))
      rw [hE.2.2.1]
      first | refine gx_iff rfl (nI_ge hk (by omega)) ?_ | refine gx_icf rfl (nI_ge hk (by omega)) ?_
      (repeat (first | refine gx_run 999 80 rfl ?_ | refine gx_goto rfl rfl ?_))
      cases s with
      | false =>
        first | refine gx_ift rfl (by dsimp only [gn_cmp] <;> decide) ?_ | refine gx_ict rfl (by dsimp only [gn_cmp] <;> decide) ?_
        (repeat (first | refine gx_run 999 80 rfl ?_ | refine gx_goto rfl rfl ?_))
        refine gw_goto rfl ?_
        rw [nI_1]
        exact hn2
      | true =>
        first | refine gx_iff rfl (by dsimp only [gn_cmp] <;> decide) ?_ | refine gx_icf rfl (by dsimp only [gn_cmp] <;> decide) ?_
        (repeat (first | refine gx_run 999 80 rfl ?_ | refine gx_goto rfl rfl ?_))
        refine gx_call rfl rfl rfl ?_
        refine mw_topicsOf hM hi ?_
        (repeat (first | refine gx_run 999 80 rfl ?_ | refine gx_goto rfl rfl ?_))
        refine gx_ld k rfl (by omega) h1.2.2.1 rfl rfl rfl ?_
        refine gw_calls rfl rfl rfl ?_
        refine mw_has (dS_lt hM.1 hi) h1.1 ?_
        (repeat (first | refine gx_run 999 80 rfl ?_ | refine gx_goto rfl rfl ?_))
        refine gx_bld k rfl (by omega) h1.2.2.2.2 rfl rfl rfl ?_
        by_cases hz : (dS D i).testBit (T k) = Z k
        · first | refine gx_iff rfl (fun q => q ((gb_z _ _).mpr hz)) ?_ | refine gx_icf rfl (fun q => q ((gb_z _ _).mpr hz)) ?_
          (repeat (first | refine gx_run 999 80 rfl ?_ | refine gx_goto rfl rfl ?_))
          refine gw_goto rfl ?_
          rw [nI_1]
          have e2 : (true && ((dS D i).testBit (T k) == Z k)) = true := by rw [hz]; simp
          rw [e2] at hn2
          exact hn2
        · first | refine gx_ift rfl (fun q => hz ((gb_z _ _).mp q)) ?_ | refine gx_ict rfl (fun q => hz ((gb_z _ _).mp q)) ?_
          (repeat (first | refine gx_run 999 80 rfl ?_ | refine gx_goto rfl rfl ?_))
          refine gw_goto rfl ?_
          rw [nI_1]
          have e2 : (true && ((dS D i).testBit (T k) == Z k)) = false := by simpa using hz
          rw [e2] at hn2
          exact hn2
    · intro hs
      have hf : gf (fun k (s : Bool) => s && ((dS D i).testBit (T k) == Z k)) e true = fit D e T Z i := hs
      rw [hf]
      (repeat (first | refine gx_run 999 80 rfl ?_ | refine gx_goto rfl rfl ?_))
      rw [hE.2.2.1]
      first | refine gx_ift rfl (nI_le (Nat.le_refl _) (by omega)) ?_ | refine gx_ict rfl (nI_le (Nat.le_refl _) (by omega)) ?_
      (repeat (first | refine gx_run 999 80 rfl ?_ | refine gx_goto rfl rfl ?_))
      by_cases hff : fit D e T Z i = true
      · rw [if_pos hff] at hn
        rw [gb_t hff]
        first | refine gx_iff rfl (by dsimp only [gn_cmp] <;> decide) ?_ | refine gx_icf rfl (by dsimp only [gn_cmp] <;> decide) ?_
        (repeat (first | refine gx_run 999 80 rfl ?_ | refine gx_goto rfl rfl ?_))
        refine gw_goto rfl ?_
        rw [nI_1]
        exact gx_drop [_, _, _] [_, _] (by rfl) hn
      · rw [if_neg hff] at hn
        rw [gb_f hff]
        first | refine gx_ift rfl (by dsimp only [gn_cmp] <;> decide) ?_ | refine gx_ict rfl (by dsimp only [gn_cmp] <;> decide) ?_
        (repeat (first | refine gx_run 999 80 rfl ?_ | refine gx_goto rfl rfl ?_))
        refine gw_goto rfl ?_
        rw [nI_1, Int32.or_zero]
        exact gx_drop [_, _, _] [_, _] (by rfl) hn
  · intro _
    (repeat (first | refine gx_run 999 80 rfl ?_ | refine gx_goto rfl rfl ?_))
    rw [hM.2.2.2.1]
    first | refine gx_ift rfl (nI_le (Nat.le_refl _) (by omega)) ?_ | refine gx_ict rfl (nI_le (Nat.le_refl _) (by omega)) ?_
    (repeat (first | refine gx_run 999 80 rfl ?_ | refine gx_goto rfl rfl ?_))
    refine gx_iret rfl rfl ?_
    rw [sC_gf hle]
    exact hQ
/-- how many bits -/
def pop (s : Nat) : Nat := (s.testBit 0).toNat + (s.testBit 1).toNat + (s.testBit 2).toNat + (s.testBit 3).toNat + (s.testBit 4).toNat + (s.testBit 5).toNat
def us (x : Int32) (k : Int32) : Int32 := (x.toUInt32 >>> (k.toUInt32 &&& Int32.toUInt32 31)).toInt32
def bc1 (x : Int32) : Int32 := x - (us x 1 &&& 1431655765)
def bc2 (x : Int32) : Int32 := (x &&& 858993459) + (us x 2 &&& 858993459)
def bc3 (x : Int32) : Int32 := x + us x 4 &&& 252645135
def bc4 (x : Int32) : Int32 := x + us x 8
def bc5 (x : Int32) : Int32 := x + us x 16
theorem bc_pop : ∀ s, s < 64 → bc5 (bc4 (bc3 (bc2 (bc1 (nI s))))) &&& 63 = nI (pop s) := by decide +kernel
theorem xw_bitCount {s : Nat} (hs : s < 64) (hQ : Q (some (.int (nI (pop s)))) σ) : gn_W d 204 0 [.int (nI s)] [] σ Q := by
  (repeat (first | refine gx_run 999 80 rfl ?_ | refine gx_goto rfl rfl ?_))
  refine gx_iret rfl rfl ?_
  show Q (some (.int (bc5 (bc4 (bc3 (bc2 (bc1 (nI s))))) &&& 63))) σ
  rw [bc_pop s hs]
  exact hQ
/-- how many could be it, of those the ones who claim t -/
def cA (D : gD) (e : Nat) (T : Nat → Nat) (Z : Nat → Bool) : Nat → Nat
  | 0 => 0
  | n + 1 => cA D e T Z n + (fit D e T Z n).toNat
def cT (D : gD) (e : Nat) (T : Nat → Nat) (Z : Nat → Bool) (t : Nat) : Nat → Nat
  | 0 => 0
  | n + 1 => cT D e T Z t n + (fit D e T Z n && (dS D n).testBit t).toNat
theorem cT_le {t n : Nat} : cT D e T Z t n ≤ cA D e T Z n := by
  induction n with
  | zero => exact Nat.le_refl _
  | succ n ih =>
    show cT D e T Z t n + (fit D e T Z n && (dS D n).testBit t).toNat ≤ cA D e T Z n + (fit D e T Z n).toNat
    cases fit D e T Z n <;> cases (dS D n).testBit t <;> simp <;> omega
theorem cA_le {n : Nat} : cA D e T Z n ≤ n := by
  induction n with
  | zero => exact Nat.le_refl _
  | succ n ih =>
    show cA D e T Z n + (fit D e T Z n).toNat ≤ n + 1
    have : (fit D e T Z n).toNat ≤ 1 := by cases fit D e T Z n <;> decide
    omega
theorem pop_cA {n : Nat} (hn : n ≤ 6) : pop (sCn D e T Z n) = cA D e T Z n := by
  unfold pop
  simp only [sCn_bit]
  rcases (show n = 0 ∨ n = 1 ∨ n = 2 ∨ n = 3 ∨ n = 4 ∨ n = 5 ∨ n = 6 by omega) with rfl | rfl | rfl | rfl | rfl | rfl | rfl <;> simp [cA]
theorem xw_greater (hT : gT 28 σ D) {t : Nat} (ht : t < 8) (hQ : Q (some (.int (nI (max (cT D e T Z t (dG D)) (cA D e T Z (dG D) - cT D e T Z t (dG D)))))) σ) : gn_W (d + 4) 8 0 [.ref 28, .int (nI (sCn D e T Z (dG D))), .int (nI t)] [] σ Q := by
  have hle := hT.1.1
  have hsl := sCn_lt (D := D) (e := e) (T := T) (Z := Z) (n := dG D) hle
  have hct := cT_le (D := D) (e := e) (T := T) (Z := Z) (t := t) (n := dG D)
  have hca := cA_le (D := D) (e := e) (T := T) (Z := Z) (n := dG D)
  (refine gw_run 5 80 rfl ?_)
  refine gw_for (dG D) (fun g y => y + (fit D e T Z g && (dS D g).testBit t).toNat) (fun i y => y = cT D e T Z t i) (fun i y => [.ref 28, .int (nI (sCn D e T Z (dG D))), .int (nI t), .int (nI y), .int (nI i)]) (fun _ => σ) 0 rfl (fun i y _ h => by rw [h]; rfl) ?_ ?_
  · intro i y hi hy hn
    have hb := bit6 (s := sCn D e T Z (dG D)) (t := i) hsl (by omega)
    rw [sCn_bit] at hb
    have hd : decide (i < dG D) = true := by simpa using hi
    rw [hd, Bool.true_and] at hb
    (repeat (first | refine gx_run 999 80 rfl ?_ | refine gx_goto rfl rfl ?_))
    rw [hT.2.2.2.1]
    first | refine gx_iff rfl (nI_ge hi (by omega)) ?_ | refine gx_icf rfl (nI_ge hi (by omega)) ?_
    (repeat (first | refine gx_run 999 80 rfl ?_ | refine gx_goto rfl rfl ?_))
    cases hf : fit D e T Z i with
    | false =>
      rw [hf] at hb hn
      first | refine gx_ift rfl (hb.mpr rfl) ?_ | refine gx_ict rfl (hb.mpr rfl) ?_
      (repeat (first | refine gx_run 999 80 rfl ?_ | refine gx_goto rfl rfl ?_))
      refine gw_goto rfl ?_
      rw [nI_1]
      exact hn
    | true =>
      rw [hf] at hb hn
      first | refine gx_iff rfl (fun q => absurd (hb.mp q) (by decide)) ?_ | refine gx_icf rfl (fun q => absurd (hb.mp q) (by decide)) ?_
      (repeat (first | refine gx_run 999 80 rfl ?_ | refine gx_goto rfl rfl ?_))
      refine gx_call rfl rfl rfl ?_
      refine xw_claimsTopic hT hi ht ?_
      (repeat (first | refine gx_run 999 80 rfl ?_ | refine gx_goto rfl rfl ?_))
      cases hs : (dS D i).testBit t with
      | false =>
        rw [hs] at hn
        first | refine gx_ift rfl (by dsimp only [gn_cmp] <;> decide) ?_ | refine gx_ict rfl (by dsimp only [gn_cmp] <;> decide) ?_
        (repeat (first | refine gx_run 999 80 rfl ?_ | refine gx_goto rfl rfl ?_))
        refine gw_goto rfl ?_
        rw [nI_1]
        exact hn
      | true =>
        rw [hs] at hn
        first | refine gx_iff rfl (by dsimp only [gn_cmp] <;> decide) ?_ | refine gx_icf rfl (by dsimp only [gn_cmp] <;> decide) ?_
        (repeat (first | refine gx_run 999 80 rfl ?_ | refine gx_goto rfl rfl ?_))
        refine gw_goto rfl ?_
        rw [nI_1, nI_1]
        exact hn
  · intro hy
    rw [hy]
    (repeat (first | refine gx_run 999 80 rfl ?_ | refine gx_goto rfl rfl ?_))
    rw [hT.2.2.2.1]
    first | refine gx_ift rfl (nI_le (Nat.le_refl _) (by omega)) ?_ | refine gx_ict rfl (nI_le (Nat.le_refl _) (by omega)) ?_
    (repeat (first | refine gx_run 999 80 rfl ?_ | refine gx_goto rfl rfl ?_))
    refine gw_calls rfl rfl rfl ?_
    refine xw_bitCount hsl ?_
    rw [pop_cA hle]
    (repeat (first | refine gx_run 999 80 rfl ?_ | refine gx_goto rfl rfl ?_))
    refine gx_iret rfl rfl ?_
    rw [pk_sub hct, nI_max (by omega) (by omega)]
    exact hQ
/-- ASK -/
def sA (D : gD) (e : Nat) (T : Nat → Nat) (Z : Nat → Bool) : Int32 × Nat := gf (fun t (y : Int32 × Nat) => if max (cT D e T Z t (dG D)) (cA D e T Z (dG D) - cT D e T Z t (dG D)) < y.2 then (nI t, max (cT D e T Z t (dG D)) (cA D e T Z (dG D) - cT D e T Z t (dG D))) else y) 8 (-1, cA D e T Z (dG D))
theorem xw_bestTopic (hT : gT 28 σ D) (hE : iE σ e T Z) (hQ : Q (some (.int (sA D e T Z).1)) σ) : gn_W (d + 5) 7 0 [.ref 22, .ref 28] [] σ Q := by
  have hle := hT.1.1
  have hsl := sCn_lt (D := D) (e := e) (T := T) (Z := Z) (n := dG D) hle
  have hca := cA_le (D := D) (e := e) (T := T) (Z := Z) (n := dG D)
  (repeat (first | refine gx_run 999 80 rfl ?_ | refine gx_goto rfl rfl ?_))
  refine gx_call rfl rfl rfl ?_
  refine xw_whoFits hT hE ?_
  (repeat (first | refine gx_run 999 80 rfl ?_ | refine gx_goto rfl rfl ?_))
  refine gw_calls rfl rfl rfl ?_
  refine xw_bitCount hsl ?_
  rw [pop_cA hle]
  (refine gw_run 17 80 rfl ?_)
  refine gw_for 8 (fun t (y : Int32 × Nat) => if max (cT D e T Z t (dG D)) (cA D e T Z (dG D) - cT D e T Z t (dG D)) < y.2 then (nI t, max (cT D e T Z t (dG D)) (cA D e T Z (dG D) - cT D e T Z t (dG D))) else y) (fun _ y => y.2 ≤ 6) (fun i y => [.ref 22, .ref 28, .int (nI (sCn D e T Z (dG D))), .int y.1, .int (nI y.2), .int (nI i)]) (fun _ => σ) ((-1 : Int32), cA D e T Z (dG D)) (by show cA D e T Z (dG D) ≤ 6; omega) ?_ ?_ ?_
  · intro i y hi hy
    split
    · show max (cT D e T Z i (dG D)) (cA D e T Z (dG D) - cT D e T Z i (dG D)) ≤ 6
      omega
    · exact hy
  · intro i y hi hy hn
    have hct := cT_le (D := D) (e := e) (T := T) (Z := Z) (t := i) (n := dG D)
    (repeat (first | refine gx_run 999 80 rfl ?_ | refine gx_goto rfl rfl ?_))
    first | refine gx_iff rfl (nI_ge (b := 8) hi (by omega)) ?_ | refine gx_icf rfl (nI_ge (b := 8) hi (by omega)) ?_
    (repeat (first | refine gx_run 999 80 rfl ?_ | refine gx_goto rfl rfl ?_))
    refine gw_calls rfl rfl rfl ?_
    refine xw_greater hT (by omega) ?_
    (repeat (first | refine gx_run 999 80 rfl ?_ | refine gx_goto rfl rfl ?_))
    by_cases hl : max (cT D e T Z i (dG D)) (cA D e T Z (dG D) - cT D e T Z i (dG D)) < y.2
    · rw [if_pos hl] at hn
      first | refine gx_iff rfl (nI_ge hl (by omega)) ?_ | refine gx_icf rfl (nI_ge hl (by omega)) ?_
      (repeat (first | refine gx_run 999 80 rfl ?_ | refine gx_goto rfl rfl ?_))
      refine gw_goto rfl ?_
      rw [nI_1]
      exact gx_drop [_, _, _, _, _, _] [_] (by rfl) hn
    · rw [if_neg hl] at hn
      first | refine gx_ift rfl (nI_le (by omega) (by omega)) ?_ | refine gx_ict rfl (nI_le (by omega) (by omega)) ?_
      (repeat (first | refine gx_run 999 80 rfl ?_ | refine gx_goto rfl rfl ?_))
      refine gw_goto rfl ?_
      rw [nI_1]
      exact gx_drop [_, _, _, _, _, _] [_] (by rfl) hn
  · intro _
    (repeat (first | refine gx_run 999 80 rfl ?_ | refine gx_goto rfl rfl ?_))
    first | refine gx_ift rfl (by dsimp only [gn_cmp] <;> decide) ?_ | refine gx_ict rfl (by dsimp only [gn_cmp] <;> decide) ?_
    (repeat (first | refine gx_run 999 80 rfl ?_ | refine gx_goto rfl rfl ?_))
    refine gx_iret rfl rfl ?_
    exact hQ
theorem mw_ask (hM : gM σ D) (hE : iE σ e T Z) (hQ : Q (some (.int (sA D e T Z).1)) σ) : gn_W (d + 3) 197 0 [.ref 44] [] σ Q := by
  have hle := hM.1.1
  have hsl := sCn_lt (D := D) (e := e) (T := T) (Z := Z) (n := dG D) hle
  have hca := cA_le (D := D) (e := e) (T := T) (Z := Z) (n := dG D)
  have hbit : ∀ i, i < dG D → (sCn D e T Z (dG D)).testBit i = fit D e T Z i := fun i hi => by
    rw [sCn_bit]
    have hd : decide (i < dG D) = true := by simpa using hi
    rw [hd, Bool.true_and]
  (repeat (first | refine gx_run 999 80 rfl ?_ | refine gx_goto rfl rfl ?_))
  refine gx_call rfl rfl rfl ?_
  refine mw_couldBe hM hE ?_
  (refine gw_run 9 80 rfl ?_)
  refine gw_for (dG D) (fun g y => y + (fit D e T Z g).toNat) (fun i y => y = cA D e T Z i) (fun i y => [.ref 44, .int (nI (sCn D e T Z (dG D))), .int (nI y), .int (nI i)]) (fun _ => σ) 0 rfl (fun i y _ h => by rw [h]; rfl) ?_ ?_
  · intro i y hi hy hn
    (repeat (first | refine gx_run 999 80 rfl ?_ | refine gx_goto rfl rfl ?_))
    rw [hM.2.2.2.1]
    first | refine gx_iff rfl (nI_ge hi (by omega)) ?_ | refine gx_icf rfl (nI_ge hi (by omega)) ?_
    (repeat (first | refine gx_run 999 80 rfl ?_ | refine gx_goto rfl rfl ?_))
    refine gw_calls rfl rfl rfl ?_
    refine mw_has (by omega) (by omega) ?_
    rw [hbit i hi]
    (repeat (first | refine gx_run 999 80 rfl ?_ | refine gx_goto rfl rfl ?_))
    cases hf : fit D e T Z i with
    | false =>
      rw [hf] at hn
      first | refine gx_ift rfl (by dsimp only [gn_cmp] <;> decide) ?_ | refine gx_ict rfl (by dsimp only [gn_cmp] <;> decide) ?_
      (repeat (first | refine gx_run 999 80 rfl ?_ | refine gx_goto rfl rfl ?_))
      refine gw_goto rfl ?_
      rw [nI_1, Int32.add_zero]
      exact hn
    | true =>
      rw [hf] at hn
      first | refine gx_iff rfl (by dsimp only [gn_cmp] <;> decide) ?_ | refine gx_icf rfl (by dsimp only [gn_cmp] <;> decide) ?_
      (repeat (first | refine gx_run 999 80 rfl ?_ | refine gx_goto rfl rfl ?_))
      refine gw_goto rfl ?_
      rw [nI_1, nI_1]
      exact hn
  · intro hy
    rw [hy]
    (repeat (first | refine gx_run 999 80 rfl ?_ | refine gx_goto rfl rfl ?_))
    rw [hM.2.2.2.1]
    first | refine gx_ift rfl (nI_le (Nat.le_refl _) (by omega)) ?_ | refine gx_ict rfl (nI_le (Nat.le_refl _) (by omega)) ?_
    (refine gw_run 47 80 rfl ?_)
    refine gw_for 8 (fun t (y : Int32 × Nat) => if max (cT D e T Z t (dG D)) (cA D e T Z (dG D) - cT D e T Z t (dG D)) < y.2 then (nI t, max (cT D e T Z t (dG D)) (cA D e T Z (dG D) - cT D e T Z t (dG D))) else y) (fun _ y => y.2 ≤ 6) (fun i y => [.ref 44, .int (nI (sCn D e T Z (dG D))), .int (nI (cA D e T Z (dG D))), .int y.1, .int (nI y.2), .int (nI i)]) (fun _ => σ) ((-1 : Int32), cA D e T Z (dG D)) (by show cA D e T Z (dG D) ≤ 6; omega) ?_ ?_ ?_
    · intro i y hi hy
      have hct := cT_le (D := D) (e := e) (T := T) (Z := Z) (t := i) (n := dG D)
      split
      · show max (cT D e T Z i (dG D)) (cA D e T Z (dG D) - cT D e T Z i (dG D)) ≤ 6
        omega
      · exact hy
    · intro t y ht hy6 hn
      have hct := cT_le (D := D) (e := e) (T := T) (Z := Z) (t := t) (n := dG D)
      (repeat (first | refine gx_run 999 80 rfl ?_ | refine gx_goto rfl rfl ?_))
      first | refine gx_iff rfl (nI_ge (b := 8) ht (by omega)) ?_ | refine gx_icf rfl (nI_ge (b := 8) ht (by omega)) ?_
      (refine gw_run 60 80 rfl ?_)
      refine gw_for (dG D) (fun g z => z + (fit D e T Z g && (dS D g).testBit t).toNat) (fun i z => z = cT D e T Z t i) (fun i z => [.ref 44, .int (nI (sCn D e T Z (dG D))), .int (nI (cA D e T Z (dG D))), .int y.1, .int (nI y.2), .int (nI t), .int (nI z), .int (nI i)]) (fun _ => σ) 0 rfl (fun i y _ h => by rw [h]; rfl) ?_ ?_
      · intro i z hi hz hn2
        (repeat (first | refine gx_run 999 80 rfl ?_ | refine gx_goto rfl rfl ?_))
        rw [hM.2.2.2.1]
        first | refine gx_iff rfl (nI_ge hi (by omega)) ?_ | refine gx_icf rfl (nI_ge hi (by omega)) ?_
        (repeat (first | refine gx_run 999 80 rfl ?_ | refine gx_goto rfl rfl ?_))
        refine gw_calls rfl rfl rfl ?_
        refine mw_has (by omega) (by omega) ?_
        rw [hbit i hi]
        (repeat (first | refine gx_run 999 80 rfl ?_ | refine gx_goto rfl rfl ?_))
        cases hf : fit D e T Z i with
        | false =>
          rw [hf] at hn2
          first | refine gx_ift rfl (by dsimp only [gn_cmp] <;> decide) ?_ | refine gx_ict rfl (by dsimp only [gn_cmp] <;> decide) ?_
          (repeat (first | refine gx_run 999 80 rfl ?_ | refine gx_goto rfl rfl ?_))
          refine gw_goto rfl ?_
          rw [nI_1, Int32.add_zero]
          exact hn2
        | true =>
          rw [hf] at hn2
          first | refine gx_iff rfl (by dsimp only [gn_cmp] <;> decide) ?_ | refine gx_icf rfl (by dsimp only [gn_cmp] <;> decide) ?_
          (repeat (first | refine gx_run 999 80 rfl ?_ | refine gx_goto rfl rfl ?_))
          refine gx_call rfl rfl rfl ?_
          refine mw_topicsOf hM hi ?_
          (repeat (first | refine gx_run 999 80 rfl ?_ | refine gx_goto rfl rfl ?_))
          refine gw_calls rfl rfl rfl ?_
          refine mw_has (dS_lt hM.1 hi) ht ?_
          (repeat (first | refine gx_run 999 80 rfl ?_ | refine gx_goto rfl rfl ?_))
          cases hs : (dS D i).testBit t with
          | false =>
            rw [hs] at hn2
            first | refine gx_ift rfl (by dsimp only [gn_cmp] <;> decide) ?_ | refine gx_ict rfl (by dsimp only [gn_cmp] <;> decide) ?_
            (repeat (first | refine gx_run 999 80 rfl ?_ | refine gx_goto rfl rfl ?_))
            refine gw_goto rfl ?_
            rw [nI_1, Int32.add_zero]
            exact hn2
          | true =>
            rw [hs] at hn2
            first | refine gx_iff rfl (by dsimp only [gn_cmp] <;> decide) ?_ | refine gx_icf rfl (by dsimp only [gn_cmp] <;> decide) ?_
            (repeat (first | refine gx_run 999 80 rfl ?_ | refine gx_goto rfl rfl ?_))
            refine gw_goto rfl ?_
            rw [nI_1, nI_1]
            exact hn2
      · intro hz
        rw [hz]
        (repeat (first | refine gx_run 999 80 rfl ?_ | refine gx_goto rfl rfl ?_))
        rw [hM.2.2.2.1]
        first | refine gx_ift rfl (nI_le (Nat.le_refl _) (by omega)) ?_ | refine gx_ict rfl (nI_le (Nat.le_refl _) (by omega)) ?_
        (repeat (first | refine gx_run 999 80 rfl ?_ | refine gx_goto rfl rfl ?_))
        rw [pk_sub hct]
        have kk : gn_W (d + 3) 197 126 [.ref 44, .int (nI (sCn D e T Z (dG D))), .int (nI (cA D e T Z (dG D))), .int y.1, .int (nI y.2), .int (nI t), .int (nI (cT D e T Z t (dG D))), .int (nI (dG D))] [.int (nI (max (cT D e T Z t (dG D)) (cA D e T Z (dG D) - cT D e T Z t (dG D))))] σ Q := by
          (repeat (first | refine gx_run 999 80 rfl ?_ | refine gx_goto rfl rfl ?_))
          by_cases hl : max (cT D e T Z t (dG D)) (cA D e T Z (dG D) - cT D e T Z t (dG D)) < y.2
          · rw [if_pos hl] at hn
            first | refine gx_iff rfl (nI_ge hl (by omega)) ?_ | refine gx_icf rfl (nI_ge hl (by omega)) ?_
            (repeat (first | refine gx_run 999 80 rfl ?_ | refine gx_goto rfl rfl ?_))
            first | refine gx_iff rfl (nI_ge hl (by omega)) ?_ | refine gx_icf rfl (nI_ge hl (by omega)) ?_
            (repeat (first | refine gx_run 999 80 rfl ?_ | refine gx_goto rfl rfl ?_))
            refine gw_goto rfl ?_
            rw [nI_1]
            exact gx_drop [_, _, _, _, _, _] [_, _] (by rfl) hn
          · rw [if_neg hl] at hn
            first | refine gx_ift rfl (nI_le (by omega) (by omega)) ?_ | refine gx_ict rfl (nI_le (by omega) (by omega)) ?_
            (repeat (first | refine gx_run 999 80 rfl ?_ | refine gx_goto rfl rfl ?_))
            first | refine gx_ift rfl (nI_le (by omega) (by omega)) ?_ | refine gx_ict rfl (nI_le (by omega) (by omega)) ?_
            (repeat (first | refine gx_run 999 80 rfl ?_ | refine gx_goto rfl rfl ?_))
            refine gw_goto rfl ?_
            rw [nI_1]
            exact gx_drop [_, _, _, _, _, _] [_, _] (by rfl) hn
        by_cases hm : cA D e T Z (dG D) - cT D e T Z t (dG D) < cT D e T Z t (dG D)
        · first | refine gx_iff rfl (nI_ge hm (by omega)) ?_ | refine gx_icf rfl (nI_ge hm (by omega)) ?_
          (refine gw_run 119 80 rfl ?_)
          refine gw_goto rfl ?_
          rw [show max (cT D e T Z t (dG D)) (cA D e T Z (dG D) - cT D e T Z t (dG D)) = cT D e T Z t (dG D) by omega] at kk
          exact kk
        · first | refine gx_ift rfl (nI_le (by omega) (by omega)) ?_ | refine gx_ict rfl (nI_le (by omega) (by omega)) ?_
          (refine gw_run 126 80 rfl ?_)
          rw [pk_sub hct]
          rw [show max (cT D e T Z t (dG D)) (cA D e T Z (dG D) - cT D e T Z t (dG D)) = cA D e T Z (dG D) - cT D e T Z t (dG D) by omega] at kk
          exact kk
    · intro _
      (repeat (first | refine gx_run 999 80 rfl ?_ | refine gx_goto rfl rfl ?_))
      first | refine gx_ift rfl (by dsimp only [gn_cmp] <;> decide) ?_ | refine gx_ict rfl (by dsimp only [gn_cmp] <;> decide) ?_
      (repeat (first | refine gx_run 999 80 rfl ?_ | refine gx_goto rfl rfl ?_))
      refine gx_iret rfl rfl ?_
      exact hQ
end
theorem p_couldBe {σ : gn_Mem} (hI : Inv σ) : gPair 116 196 [] σ := by
  obtain ⟨D, A, c, nx, B, z, I, e, T, Z, b, G, H, n, L, hT, hN, hS, hP, hII, hE, hB, hX, hF⟩ := id hI
  have hd := hT.1
  refine gPair.q hI (nI (sCn D e T Z (dG D))) (fun Q hQ => ?_) (fun Q hQ => ?_)
  · (repeat (first | refine gx_run 999 80 rfl ?_ | refine gx_goto rfl rfl ?_))
    rw [hd]
    refine gx_call rfl rfl rfl ?_
    refine xw_whoFits hT.2.2.1 hE ?_
    (repeat (first | refine gx_run 999 80 rfl ?_ | refine gx_goto rfl rfl ?_))
    refine gx_iret rfl rfl ?_
    exact hQ
  · exact mw_couldBe hT.2.2.2 hE hQ
theorem p_ask {σ : gn_Mem} (hI : Inv σ) : gPair 117 197 [] σ := by
  obtain ⟨D, A, c, nx, B, z, I, e, T, Z, b, G, H, n, L, hT, hN, hS, hP, hII, hE, hB, hX, hF⟩ := id hI
  have hd := hT.1
  refine gPair.q hI (sA D e T Z).1 (fun Q hQ => ?_) (fun Q hQ => ?_)
  · (repeat (first | refine gx_run 999 80 rfl ?_ | refine gx_goto rfl rfl ?_))
    rw [hd]
    refine gx_call rfl rfl rfl ?_
    refine xw_bestTopic hT.2.2.1 hE ?_
    (repeat (first | refine gx_run 999 80 rfl ?_ | refine gx_goto rfl rfl ?_))
    refine gx_iret rfl rfl ?_
    exact hQ
  · exact mw_ask hT.2.2.2 hE hQ
