/-! the class's Table: loops -/
def gfi (p : Nat → Bool) : Nat → Option Nat
  | 0 => none
  | n + 1 => match gfi p n with
    | some k => some k
    | none => if p n then some n else none
theorem gfi_none {p : Nat → Bool} {n : Nat} (h : ∀ j, j < n → p j = false) : gfi p n = none := by
  induction n with
  | zero => rfl
  | succ n ih =>
    unfold gfi
    rw [ih (fun j hj => h j (by omega))]
    dsimp only
    rw [h n (by omega)]
    rfl
theorem gfi_some {p : Nat → Bool} {n i : Nat} (hi : i < n) (hp : p i = true) (h : ∀ j, j < i → p j = false) : gfi p n = some i := by
  induction n with
  | zero => omega
  | succ n ih =>
    unfold gfi
    by_cases e : i = n
    · subst e
      rw [gfi_none h]
      dsimp only
      rw [hp]
      rfl
    · rw [ih (by omega)]
def eo : Option Nat → Int32
  | none => -1
  | some k => nI k
section
variable {d mi pc : Nat} {Q : Option Value → gn_Mem → Prop} {σ : gn_Mem}
/-- a loop that may end early, without a change of memory -/
theorem gw_forE (n : Nat) (p : Nat → Bool) (lf : Nat → List Value) (hb : ∀ i, i < n → p i = false → gn_W d mi pc (lf (i + 1)) [] σ Q → gn_W d mi pc (lf i) [] σ Q) (hs : ∀ i, i < n → p i = true → gfi p n = some i → gn_W d mi pc (lf i) [] σ Q) (hx : gfi p n = none → gn_W d mi pc (lf n) [] σ Q) : gn_W d mi pc (lf 0) [] σ Q := by
  have key : ∀ m i, m + i = n → (∀ j, j < i → p j = false) → gn_W d mi pc (lf i) [] σ Q := by
    intro m
    induction m with
    | zero =>
      intro i hi hj
      have e : i = n := by omega
      subst e
      exact hx (gfi_none hj)
    | succ m ih =>
      intro i hi hj
      cases hp : p i with
      | true => exact hs i (by omega) hp (gfi_some (by omega) hp hj)
      | false =>
        refine hb i (by omega) hp (ih (i + 1) (by omega) ?_)
        intro j hj2
        by_cases e : j = i
        · rw [e]; exact hp
        · exact hj j (by omega)
  exact key n 0 (by omega) (fun j hj => by omega)
end
def mxJ (D : gD) (g h f : Nat) : Nat → Nat
  | 0 => 0
  | n + 1 => max (mxJ D g h f n) (jP D g h (f + n) + (f + n))
theorem mx0 {f : Nat} (h : f < 2 ^ 31) : (if (0 : Int32) < nI f then nI f else 0) = nI f := by
  by_cases e : f = 0
  · subst e; rfl
  · have h0 : (0 : Int32) < nI f := nI_lt (a := 0) (by omega) h
    rw [if_pos h0]
theorem nI_max {a b : Nat} (ha : a < 2 ^ 31) (hb : b < 2 ^ 31) : (if nI a < nI b then nI b else nI a) = nI (max a b) := by
  by_cases h : a < b
  · rw [if_pos (nI_lt h hb), Nat.max_eq_right (by omega)]
  · rw [if_neg (nI_nlt (by omega) ha), Nat.max_eq_left (by omega)]
theorem gW.mxJ {D : gD} (hW : gW D) {g h f n : Nat} (hg : g < dG D) (hh : h < dH D) (hf : f + n ≤ dC D g) : mxJ D g h f n ≤ 28 := by
  have hc := (hW.2.2.2.2.1 g hg).2.2
  induction n with
  | zero => exact Nat.zero_le _
  | succ n ih =>
    have h1 := ih (by omega)
    have h2 := hW.jP hg hh (k := f + n) (by omega)
    simp only [_root_.Jvm.Pilot.CGuestNoesLaw_law_r7866_5d6c8b.mxJ]
    omega
/-- the class's loop, to the sixth claim -/
def xmJ (D : gD) (g h f : Nat) (i : Nat) (y : Int32) : Int32 := if y < (if f + i < dC D g then nI (jP D g h (f + i) + (f + i)) else -1) then (if f + i < dC D g then nI (jP D g h (f + i) + (f + i)) else -1) else y
theorem xmJ_eq {D : gD} (hW : gW D) {g h f n : Nat} (hg : g < dG D) (hh : h < dH D) (hf : f < dC D g) : gf (xmJ D g h f) n (-1) = if n = 0 then -1 else nI (mxJ D g h f (min n (dC D g - f))) := by
  induction n with
  | zero => rfl
  | succ n ih =>
    rw [if_neg (by omega)]
    show xmJ D g h f n (gf (xmJ D g h f) n (-1)) = _
    rw [ih]
    unfold xmJ
    by_cases hl : f + n < dC D g
    · have hb := hW.jP hg hh hl
      have hc := (hW.2.2.2.2.1 g hg).2.2
      rw [if_pos hl, show min (n + 1) (dC D g - f) = n + 1 by omega]
      by_cases e : n = 0
      · subst e
        rw [if_pos rfl]
        have hb : jP D g h f ≤ 23 := hb
        simp only [mxJ, Nat.add_zero, Nat.zero_max]
        rw [if_pos]
        have : (-1 : Int32) < 0 := by decide
        rw [Int32.lt_iff_toInt_lt] at this ⊢
        rw [nI_toInt (by omega)]
        have e2 : (-1 : Int32).toInt = -1 := by decide
        omega
      · rw [if_neg e, show min n (dC D g - f) = n by omega]
        have h3 := hW.mxJ (n := n) (f := f) hg hh (by omega)
        rw [nI_max (by omega) (by omega)]
        rfl
    · rw [if_neg hl]
      have e : n ≠ 0 := by omega
      rw [if_neg e, show min n (dC D g - f) = dC D g - f by omega, show min (n + 1) (dC D g - f) = dC D g - f by omega]
      have h3 := hW.mxJ (n := dC D g - f) (f := f) hg hh (by omega)
      rw [if_neg]
      rw [Int32.lt_iff_toInt_lt, nI_toInt (by omega)]
      have e2 : (-1 : Int32).toInt = -1 := by decide
      omega
section
variable {d : Nat} {σ : gn_Mem} {Q : Option Value → gn_Mem → Prop} {D : gD}
theorem xw_mjf (hT : gT 28 σ D) {g h f : Nat} (hg : g < dG D) (hh : h < dH D) (hf : f < dC D g) (hQ : Q (some (.int (nI (mxJ D g h f (dC D g - f))))) σ) : gn_W (d + 4) 80 0 [.ref 28, .int (nI f), .int (nI g), .int (nI h)] [] σ Q := by
  have hc := hT.1.2.2.2.2.1 g hg
  (refine gw_run 10 80 rfl ?_)
  rw [mx0 (by omega)]
  refine gw_for (6 - f) (xmJ D g h f) (fun _ _ => True) (fun i y => [.ref 28, .int (nI f), .int (nI g), .int (nI h), .int y, .int (nI (f + i))]) (fun _ => σ) (-1) trivial (fun _ _ _ _ => trivial) ?_ ?_
  · intro i y hi _ hn
    (repeat (first | refine gx_run 999 80 rfl ?_ | refine gx_goto rfl rfl ?_))
    first | refine gx_iff rfl (nI_ge (b := 6) (by omega) (by omega)) ?_ | refine gx_icf rfl (nI_ge (b := 6) (by omega) (by omega)) ?_
    (repeat (first | refine gx_run 999 80 rfl ?_ | refine gx_goto rfl rfl ?_))
    refine gx_call rfl rfl rfl ?_
    refine xw_joyOf hT hg hh (by omega) ?_
    (repeat (first | refine gx_run 999 80 rfl ?_ | refine gx_goto rfl rfl ?_))
    refine gw_goto rfl ?_
    rw [nI_1]
    exact hn
  · intro _
    (repeat (first | refine gx_run 999 80 rfl ?_ | refine gx_goto rfl rfl ?_))
    first | refine gx_ift rfl (nI_le (a := 6) (by omega) (by omega)) ?_ | refine gx_ict rfl (nI_le (a := 6) (by omega) (by omega)) ?_
    (repeat (first | refine gx_run 999 80 rfl ?_ | refine gx_goto rfl rfl ?_))
    refine gx_iret rfl rfl ?_
    rw [xmJ_eq hT.1 hg hh hf, if_neg (by omega), show min (6 - f) (dC D g - f) = dC D g - f by omega]
    exact hQ
theorem xw_mjfN (hT : gT 28 σ D) {g f : Nat} (hg : g < dG D) (hf : f < 6) (hQ : Q (some (.int (-1))) σ) : gn_W (d + 4) 80 0 [.ref 28, .int (nI f), .int (nI g), .int (-1)] [] σ Q := by
  (refine gw_run 10 80 rfl ?_)
  rw [mx0 (by omega)]
  refine gw_for (6 - f) (fun _ y => y) (fun _ y => y = -1) (fun i y => [.ref 28, .int (nI f), .int (nI g), .int (-1), .int y, .int (nI (f + i))]) (fun _ => σ) (-1) rfl (fun _ _ _ h => h) ?_ ?_
  · intro i y hi hy hn
    subst hy
    (repeat (first | refine gx_run 999 80 rfl ?_ | refine gx_goto rfl rfl ?_))
    first | refine gx_iff rfl (nI_ge (b := 6) (by omega) (by omega)) ?_ | refine gx_icf rfl (nI_ge (b := 6) (by omega) (by omega)) ?_
    (repeat (first | refine gx_run 999 80 rfl ?_ | refine gx_goto rfl rfl ?_))
    refine gx_call rfl rfl rfl ?_
    refine xw_joyOfN hT hg ?_
    (repeat (first | refine gx_run 999 80 rfl ?_ | refine gx_goto rfl rfl ?_))
    refine gw_goto rfl ?_
    rw [nI_1]
    exact hn
  · intro h1
    rw [h1]
    (repeat (first | refine gx_run 999 80 rfl ?_ | refine gx_goto rfl rfl ?_))
    first | refine gx_ift rfl (nI_le (a := 6) (by omega) (by omega)) ?_ | refine gx_ict rfl (nI_le (a := 6) (by omega) (by omega)) ?_
    (repeat (first | refine gx_run 999 80 rfl ?_ | refine gx_goto rfl rfl ?_))
    refine gx_iret rfl rfl ?_
    exact hQ
/-- WRONG AT -/
def wA (D : gD) (g : Nat) : Option Nat := gfi (fun k => !(dF D).testBit (dT D g k)) (dC D g)
theorem xw_wrongAt (hT : gT 28 σ D) {g : Nat} (hg : g < dG D) (hQ : Q (some (.int (eo (wA D g)))) σ) : gn_W (d + 2) 81 0 [.ref 28, .int (nI g)] [] σ Q := by
  have hc := hT.1.2.2.2.2.1 g hg
  (repeat (first | refine gx_run 999 80 rfl ?_ | refine gx_goto rfl rfl ?_))
  refine gx_call rfl rfl rfl ?_
  refine xw_claimCount hT hg ?_
  (refine gw_run 8 80 rfl ?_)
  refine gw_forE (dC D g) (fun k => !(dF D).testBit (dT D g k)) (fun i => [.ref 28, .int (nI g), .int (nI (dC D g)), .int (nI i)]) ?_ ?_ ?_
  · intro i hi hp hn
    (repeat (first | refine gx_run 999 80 rfl ?_ | refine gx_goto rfl rfl ?_))
    first | refine gx_iff rfl (nI_ge hi (by omega)) ?_ | refine gx_icf rfl (nI_ge hi (by omega)) ?_
    (repeat (first | refine gx_run 999 80 rfl ?_ | refine gx_goto rfl rfl ?_))
    refine gx_call rfl rfl rfl ?_
    refine xw_topic hT hg (by omega) ?_
    rw [if_pos hi]
    (repeat (first | refine gx_run 999 80 rfl ?_ | refine gx_goto rfl rfl ?_))
    refine gx_call rfl rfl rfl ?_
    refine xw_isTrue hT (hT.1.2.2.2.2.2.1 g i hg hi).1 ?_
    rw [gb_t (by simpa using hp)]
    (repeat (first | refine gx_run 999 80 rfl ?_ | refine gx_goto rfl rfl ?_))
    first | refine gx_ift rfl (by dsimp only [gn_cmp] <;> decide) ?_ | refine gx_ict rfl (by dsimp only [gn_cmp] <;> decide) ?_
    (repeat (first | refine gx_run 999 80 rfl ?_ | refine gx_goto rfl rfl ?_))
    refine gw_goto rfl ?_
    rw [nI_1]
    exact hn
  · intro i hi hp he
    (repeat (first | refine gx_run 999 80 rfl ?_ | refine gx_goto rfl rfl ?_))
    first | refine gx_iff rfl (nI_ge hi (by omega)) ?_ | refine gx_icf rfl (nI_ge hi (by omega)) ?_
    (repeat (first | refine gx_run 999 80 rfl ?_ | refine gx_goto rfl rfl ?_))
    refine gx_call rfl rfl rfl ?_
    refine xw_topic hT hg (by omega) ?_
    rw [if_pos hi]
    (repeat (first | refine gx_run 999 80 rfl ?_ | refine gx_goto rfl rfl ?_))
    refine gx_call rfl rfl rfl ?_
    refine xw_isTrue hT (hT.1.2.2.2.2.2.1 g i hg hi).1 ?_
    rw [gb_f (by simpa using hp)]
    (repeat (first | refine gx_run 999 80 rfl ?_ | refine gx_goto rfl rfl ?_))
    first | refine gx_iff rfl (by dsimp only [gn_cmp] <;> decide) ?_ | refine gx_icf rfl (by dsimp only [gn_cmp] <;> decide) ?_
    (repeat (first | refine gx_run 999 80 rfl ?_ | refine gx_goto rfl rfl ?_))
    refine gx_iret rfl rfl ?_
    unfold wA at hQ
    rw [he] at hQ
    exact hQ
  · intro he
    (repeat (first | refine gx_run 999 80 rfl ?_ | refine gx_goto rfl rfl ?_))
    first | refine gx_ift rfl (nI_le (Nat.le_refl _) (by omega)) ?_ | refine gx_ict rfl (nI_le (Nat.le_refl _) (by omega)) ?_
    (repeat (first | refine gx_run 999 80 rfl ?_ | refine gx_goto rfl rfl ?_))
    refine gx_iret rfl rfl ?_
    unfold wA at hQ
    rw [he] at hQ
    exact hQ
/-- the bit of g -/
abbrev bt (g : Nat) : Int32 := 1 <<< (nI g &&& 31)
/-- RIGHT -/
def sR (D : gD) : Int32 := gf (fun g s => if wA D g = none then s ||| bt g else s) (dG D) 0
theorem eo_none {o : Option Nat} {n : Nat} (hn : ∀ k, o = some k → k < n) (h : n < 2 ^ 31) : eo o = -1 ↔ o = none := by
  cases o with
  | none => simp [eo]
  | some k =>
    have h1 := hn k rfl
    constructor
    · intro h2
      exact absurd h2 (nI_ne1 (by omega))
    · intro h2; cases h2
theorem gfi_lt {p : Nat → Bool} {n k : Nat} (h : gfi p n = some k) : k < n := by
  induction n with
  | zero => cases h
  | succ n ih =>
    unfold gfi at h
    cases hg : gfi p n with
    | some j =>
      rw [hg] at h ih
      dsimp only at h
      have := ih h
      omega
    | none =>
      rw [hg] at h
      dsimp only at h
      split at h
      · cases h; omega
      · cases h
theorem wA_none {D : gD} (hW : gW D) {g : Nat} (hg : g < dG D) : eo (wA D g) = -1 ↔ wA D g = none := by
  have hc := hW.2.2.2.2.1 g hg
  exact eo_none (n := dC D g) (fun k h => gfi_lt h) (by omega)
theorem xw_whoIsRight (hT : gT 28 σ D) (hQ : Q (some (.int (sR D))) σ) : gn_W (d + 3) 82 0 [.ref 28] [] σ Q := by
  have hle := hT.1.1
  (refine gw_run 4 80 rfl ?_)
  refine gw_for (dG D) (fun g s => if wA D g = none then s ||| bt g else s) (fun _ _ => True) (fun i y => [.ref 28, .int y, .int (nI i)]) (fun _ => σ) 0 trivial (fun _ _ _ _ => trivial) ?_ ?_
  · intro i y hi _ hn
    (repeat (first | refine gx_run 999 80 rfl ?_ | refine gx_goto rfl rfl ?_))
    rw [hT.2.2.2.1]
    first | refine gx_iff rfl (nI_ge hi (by omega)) ?_ | refine gx_icf rfl (nI_ge hi (by omega)) ?_
    (repeat (first | refine gx_run 999 80 rfl ?_ | refine gx_goto rfl rfl ?_))
    refine gx_call rfl rfl rfl ?_
    refine xw_wrongAt hT hi ?_
    (repeat (first | refine gx_run 999 80 rfl ?_ | refine gx_goto rfl rfl ?_))
    by_cases hw : wA D i = none
    · simp only [if_pos hw] at hn
      first | refine gx_iff rfl (fun q => q ((wA_none hT.1 hi).mpr hw)) ?_ | refine gx_icf rfl (fun q => q ((wA_none hT.1 hi).mpr hw)) ?_
      (repeat (first | refine gx_run 999 80 rfl ?_ | refine gx_goto rfl rfl ?_))
      refine gw_goto rfl ?_
      rw [nI_1]
      exact hn
    · simp only [if_neg hw] at hn
      first | refine gx_ift rfl (fun q => hw ((wA_none hT.1 hi).mp q)) ?_ | refine gx_ict rfl (fun q => hw ((wA_none hT.1 hi).mp q)) ?_
      (repeat (first | refine gx_run 999 80 rfl ?_ | refine gx_goto rfl rfl ?_))
      refine gw_goto rfl ?_
      rw [nI_1]
      exact hn
  · intro _
    (repeat (first | refine gx_run 999 80 rfl ?_ | refine gx_goto rfl rfl ?_))
    rw [hT.2.2.2.1]
    first | refine gx_ift rfl (nI_le (Nat.le_refl _) (by omega)) ?_ | refine gx_ict rfl (nI_le (Nat.le_refl _) (by omega)) ?_
    (repeat (first | refine gx_run 999 80 rfl ?_ | refine gx_goto rfl rfl ?_))
    refine gx_iret rfl rfl ?_
    exact hQ
theorem dSn_lt {D : gD} (hW : gW D) {g n : Nat} (hg : g < dG D) (hn : n ≤ dC D g) : dSn D g n < 256 := by
  induction n with
  | zero => show 0 < 256; omega
  | succ n ih =>
    show dSn D g n ||| 2 ^ dT D g n < 2 ^ 8
    refine Nat.or_lt_two_pow (ih (by omega)) ?_
    exact Nat.pow_lt_pow_right (by omega) (hW.2.2.2.2.2.1 g n hg (by omega)).1
theorem dS_lt {D : gD} (hW : gW D) {g : Nat} (hg : g < dG D) : dS D g < 256 := dSn_lt hW hg (Nat.le_refl _)
theorem xw_claimsTopic (hT : gT 28 σ D) {g t : Nat} (hg : g < dG D) (ht : t < 8) (hQ : Q (some (.int (gb ((dS D g).testBit t = true)))) σ) : gn_W (d + 2) 84 0 [.ref 28, .int (nI g), .int (nI t)] [] σ Q := by
  (repeat (first | refine gx_run 999 80 rfl ?_ | refine gx_goto rfl rfl ?_))
  refine gx_call rfl rfl rfl ?_
  refine xw_topicsOf hT hg ?_
  (repeat (first | refine gx_run 999 80 rfl ?_ | refine gx_goto rfl rfl ?_))
  have hb := bit_lt (t := t) (dS_lt hT.1 hg) ht
  first | refine gw_if rfl (fun h => ?_) (fun h => ?_) | refine gw_icmp rfl (fun h => ?_) (fun h => ?_)
  · (repeat (first | refine gx_run 999 80 rfl ?_ | refine gx_goto rfl rfl ?_))
    refine gw_zret rfl (Or.inl rfl) ?_
    rw [gb_f (by rw [hb.mp h]; simp)] at hQ; exact hQ
  · (repeat (first | refine gx_run 999 80 rfl ?_ | refine gx_goto rfl rfl ?_))
    refine gw_zret rfl (Or.inr rfl) ?_
    have h2 : (dS D g).testBit t = true := by
      cases hq : (dS D g).testBit t with
      | true => rfl
      | false => exact absurd (hb.mpr hq) h
    rw [gb_t h2] at hQ; exact hQ
/-- NOBODY'S -/
def sN (D : gD) : Int32 := gf (fun g s => s &&& (nI (dS D g) ^^^ -1)) (dG D) 255
theorem xw_nobody (hT : gT 28 σ D) (hQ : Q (some (.int (sN D))) σ) : gn_W (d + 2) 85 0 [.ref 28] [] σ Q := by
  have hle := hT.1.1
  (refine gw_run 6 80 rfl ?_)
  refine gw_for (dG D) (fun g s => s &&& (nI (dS D g) ^^^ -1)) (fun _ _ => True) (fun i y => [.ref 28, .int y, .int (nI i)]) (fun _ => σ) 255 trivial (fun _ _ _ _ => trivial) ?_ ?_
  · intro i y hi _ hn
    (repeat (first | refine gx_run 999 80 rfl ?_ | refine gx_goto rfl rfl ?_))
    rw [hT.2.2.2.1]
    first | refine gx_iff rfl (nI_ge hi (by omega)) ?_ | refine gx_icf rfl (nI_ge hi (by omega)) ?_
    (repeat (first | refine gx_run 999 80 rfl ?_ | refine gx_goto rfl rfl ?_))
    refine gx_call rfl rfl rfl ?_
    refine xw_topicsOf hT hi ?_
    (repeat (first | refine gx_run 999 80 rfl ?_ | refine gx_goto rfl rfl ?_))
    refine gw_goto rfl ?_
    rw [nI_1]
    exact hn
  · intro _
    (repeat (first | refine gx_run 999 80 rfl ?_ | refine gx_goto rfl rfl ?_))
    rw [hT.2.2.2.1]
    first | refine gx_ift rfl (nI_le (Nat.le_refl _) (by omega)) ?_ | refine gx_ict rfl (nI_le (Nat.le_refl _) (by omega)) ?_
    (repeat (first | refine gx_run 999 80 rfl ?_ | refine gx_goto rfl rfl ?_))
    refine gx_iret rfl rfl ?_
    exact hQ
/-- the boldest claim of a guest on a topic, or NONE -/
def bN (D : gD) (g t : Nat) : Int32 := gf (fun k y => if dT D g k = t then (if y < nI (dB D g k) then nI (dB D g k) else y) else y) (dC D g) (-1)
theorem xw_boldnessOn (hT : gT 28 σ D) {g t : Nat} (hg : g < dG D) (ht : t < 8) (hQ : Q (some (.int (bN D g t))) σ) : gn_W (d + 2) 87 0 [.ref 28, .int (nI g), .int (nI t)] [] σ Q := by
  have hc := hT.1.2.2.2.2.1 g hg
  (repeat (first | refine gx_run 999 80 rfl ?_ | refine gx_goto rfl rfl ?_))
  refine gx_call rfl rfl rfl ?_
  refine xw_claimCount hT hg ?_
  (refine gw_run 12 80 rfl ?_)
  refine gw_for (dC D g) (fun k y => if dT D g k = t then (if y < nI (dB D g k) then nI (dB D g k) else y) else y) (fun _ _ => True) (fun i y => [.ref 28, .int (nI g), .int (nI t), .int y, .int (nI (dC D g)), .int (nI i)]) (fun _ => σ) (-1) trivial (fun _ _ _ _ => trivial) ?_ ?_
  · intro i y hi _ hn
    have hv := (hT.1.2.2.2.2.2.1 g i hg hi)
    (repeat (first | refine gx_run 999 80 rfl ?_ | refine gx_goto rfl rfl ?_))
    first | refine gx_iff rfl (nI_ge hi (by omega)) ?_ | refine gx_icf rfl (nI_ge hi (by omega)) ?_
    (repeat (first | refine gx_run 999 80 rfl ?_ | refine gx_goto rfl rfl ?_))
    refine gx_call rfl rfl rfl ?_
    refine xw_topic hT hg (by omega) ?_
    rw [if_pos hi]
    (repeat (first | refine gx_run 999 80 rfl ?_ | refine gx_goto rfl rfl ?_))
    by_cases hw : dT D g i = t
    · simp only [if_pos hw] at hn
      first | refine gx_iff rfl (fun q => q (by rw [hw])) ?_ | refine gx_icf rfl (fun q => q (by rw [hw])) ?_
      (repeat (first | refine gx_run 999 80 rfl ?_ | refine gx_goto rfl rfl ?_))
      refine gx_call rfl rfl rfl ?_
      refine xw_bold hT hg (by omega) ?_
      rw [if_pos hi]
      (repeat (first | refine gx_run 999 80 rfl ?_ | refine gx_goto rfl rfl ?_))
      refine gw_goto rfl ?_
      rw [nI_1]
      exact hn
    · simp only [if_neg hw] at hn
      first | refine gx_ift rfl (fun q => hw ((nI_eq (by omega) (by omega)).mp q)) ?_ | refine gx_ict rfl (fun q => hw ((nI_eq (by omega) (by omega)).mp q)) ?_
      (repeat (first | refine gx_run 999 80 rfl ?_ | refine gx_goto rfl rfl ?_))
      refine gw_goto rfl ?_
      rw [nI_1]
      exact hn
  · intro _
    (repeat (first | refine gx_run 999 80 rfl ?_ | refine gx_goto rfl rfl ?_))
    first | refine gx_ift rfl (nI_le (Nat.le_refl _) (by omega)) ?_ | refine gx_ict rfl (nI_le (Nat.le_refl _) (by omega)) ?_
    (repeat (first | refine gx_run 999 80 rfl ?_ | refine gx_goto rfl rfl ?_))
    refine gx_iret rfl rfl ?_
    exact hQ
/-- BOLDEST: the guest, and how bold -/
def sB (D : gD) (t : Nat) : Int32 × Int32 := gf (fun g y => if y.2 < bN D g t then (nI g, bN D g t) else y) (dG D) (-1, -1)
theorem xw_boldest (hT : gT 28 σ D) {t : Nat} (ht : t < 8) (hQ : Q (some (.int (sB D t).1)) σ) : gn_W (d + 3) 86 0 [.ref 28, .int (nI t)] [] σ Q := by
  have hle := hT.1.1
  (refine gw_run 7 80 rfl ?_)
  refine gw_for (dG D) (fun g y => if y.2 < bN D g t then (nI g, bN D g t) else y) (fun _ _ => True) (fun i y => [.ref 28, .int (nI t), .int y.1, .int y.2, .int (nI i)]) (fun _ => σ) ((-1 : Int32), (-1 : Int32)) trivial (fun _ _ _ _ => trivial) ?_ ?_
  · intro i y hi _ hn
    (repeat (first | refine gx_run 999 80 rfl ?_ | refine gx_goto rfl rfl ?_))
    rw [hT.2.2.2.1]
    first | refine gx_iff rfl (nI_ge hi (by omega)) ?_ | refine gx_icf rfl (nI_ge hi (by omega)) ?_
    (repeat (first | refine gx_run 999 80 rfl ?_ | refine gx_goto rfl rfl ?_))
    refine gx_call rfl rfl rfl ?_
    refine xw_boldnessOn hT hi ht ?_
    (repeat (first | refine gx_run 999 80 rfl ?_ | refine gx_goto rfl rfl ?_))
    by_cases hw : y.2 < bN D i t
    · simp only [if_pos hw] at hn
      first | refine gx_iff rfl (fun q => absurd hw (Int32.not_lt.mpr q)) ?_ | refine gx_icf rfl (fun q => absurd hw (Int32.not_lt.mpr q)) ?_
      (repeat (first | refine gx_run 999 80 rfl ?_ | refine gx_goto rfl rfl ?_))
      refine gw_goto rfl ?_
      rw [nI_1]
      exact gx_drop [_, _, _, _, _] [_] (by rfl) hn
    · simp only [if_neg hw] at hn
      first | refine gx_ift rfl (Int32.not_lt.mp hw) ?_ | refine gx_ict rfl (Int32.not_lt.mp hw) ?_
      (repeat (first | refine gx_run 999 80 rfl ?_ | refine gx_goto rfl rfl ?_))
      refine gw_goto rfl ?_
      rw [nI_1]
      exact gx_drop [_, _, _, _, _] [_] (by rfl) hn
  · intro _
    (repeat (first | refine gx_run 999 80 rfl ?_ | refine gx_goto rfl rfl ?_))
    rw [hT.2.2.2.1]
    first | refine gx_ift rfl (nI_le (Nat.le_refl _) (by omega)) ?_ | refine gx_ict rfl (nI_le (Nat.le_refl _) (by omega)) ?_
    (repeat (first | refine gx_run 999 80 rfl ?_ | refine gx_goto rfl rfl ?_))
    refine gx_iret rfl rfl ?_
    exact hQ
end
