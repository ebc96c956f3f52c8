/-! data: an evening (D), a night (A), by natural numbers; rules with such numbers -/
abbrev gD : Type := Nat → Nat → Nat → Nat
abbrev dG (D : gD) : Nat := D 0 0 0
abbrev dH (D : gD) : Nat := D 1 0 0
abbrev dF (D : gD) : Nat := D 2 0 0
abbrev dE (D : gD) : Nat := D 9 0 0
abbrev dP (D : gD) (g : Nat) : Nat := D 3 g 0
abbrev dC (D : gD) (g : Nat) : Nat := D 4 g 0
abbrev dT (D : gD) (g k : Nat) : Nat := D 5 g k
abbrev dB (D : gD) (g k : Nat) : Nat := D 6 g k
abbrev dK (D : gD) (h : Nat) : Nat := D 7 h 0
abbrev dN (D : gD) (h : Nat) : Nat := D 8 h 0
/-- the numbers' bounds -/
def gW (D : gD) : Prop := dG D ≤ 6 ∧ dH D ≤ 4 ∧ dE D ≤ 1 ∧ dF D < 256 ∧ (∀ g, g < dG D → dP D g ≤ 9 ∧ 1 ≤ dC D g ∧ dC D g ≤ 6) ∧ (∀ g k, g < dG D → k < dC D g → dT D g k < 8 ∧ dB D g k ≤ 9) ∧ (∀ h, h < dH D → dK D h ≤ 3 ∧ dN D h ≤ 9)
/-- topics of the first n claims, as a set -/
def dSn (D : gD) (g : Nat) : Nat → Nat
  | 0 => 0
  | n + 1 => dSn D g n ||| 2 ^ dT D g n
def dS (D : gD) (g : Nat) : Nat := dSn D g (dC D g)
/-- the table at t holds D -/
def gT (t : Nat) (σ : gn_Mem) (D : gD) : Prop := gW D ∧ σ t 0 = nI (dE D) ∧ σ t 1 = nI (dF D) ∧ σ t 2 = nI (dG D) ∧ σ t 3 = nI (dH D) ∧ (∀ g, g < dG D → σ (t + 1) g = nI (dP D g) ∧ σ (t + 2) g = nI (dC D g) ∧ σ (t + 5) g = nI (dS D g)) ∧ (∀ g k, g < dG D → k < dC D g → σ (t + 3) (6 * g + k) = nI (dT D g k) ∧ σ (t + 4) (6 * g + k) = nI (dB D g k)) ∧ (∀ h, h < dH D → σ (t + 6) h = nI (dK D h) ∧ σ (t + 7) h = nI (dN D h))
/-- the reference holds D -/
def gM (σ : gn_Mem) (D : gD) : Prop := gW D ∧ σ 44 6 = nI (dE D) ∧ σ 44 7 = nI (dF D) ∧ σ 44 8 = nI (dG D) ∧ σ 44 9 = nI (dH D) ∧ (∀ g, g < dG D → σ 46 g = nI (dP D g) ∧ σ 48 g = nI (dC D g)) ∧ (∀ g k, g < dG D → k < dC D g → σ 47 (6 * g + k) = nI (10 * dT D g k + dB D g k)) ∧ (∀ h, h < dH D → σ 49 h = nI (dK D h) ∧ σ 50 h = nI (dN D h))
def gb (p : Prop) [Decidable p] : Int32 := if p then 1 else 0
theorem gb_t {p : Prop} [Decidable p] (h : p) : gb p = 1 := if_pos h
theorem gb_f {p : Prop} [Decidable p] (h : ¬ p) : gb p = 0 := if_neg h
theorem ix6 (g k : Nat) : nI g * 6 + nI k = nI (6 * g + k) := by
  rw [show (6 : Int32) = nI 6 from rfl, pk_mul, nI_add, Nat.mul_comm]
theorem ix6' (g k : Nat) : 6 * nI g + nI k = nI (6 * g + k) := by
  rw [show (6 : Int32) = nI 6 from rfl, pk_mul, nI_add]
section
variable {d mi pc nx a b : Nat} {v : Int32} {lo st r : List Value} {σ : gn_Mem} {Q : Option Value → gn_Mem → Prop}
theorem gx_ld {o len : Nat} {i w : Int32} (j : Nat) (hi : i = nI j) (hj : j < len) (hv : σ o j = w) (hcd : gn_cd mi pc = some (.iaload, nx, a, b, v)) (hl : gn_ly o = .inl (false, len)) (hb : Nat.ble len 1000 = true) (k : gn_W d mi nx lo (.int w :: r) σ Q) : gn_W d mi pc lo (.int i :: .ref o :: r) σ Q := by
  have hlen : len ≤ 1000 := Nat.le_of_ble_eq_true hb
  subst hi
  refine gw_iald hcd hl (vp_in_nI hj (by omega)) ?_
  rw [nI_clamp (by omega), hv]
  exact k
theorem gx_st {o len : Nat} {i x : Int32} (j : Nat) (hi : i = nI j) (hj : j < len) (hcd : gn_cd mi pc = some (.iastore, nx, a, b, v)) (hl : gn_ly o = .inl (false, len)) (hb : Nat.ble len 1000 = true) (k : gn_W d mi nx lo r (gn_up σ o j x) Q) : gn_W d mi pc lo (.int x :: .int i :: .ref o :: r) σ Q := by
  have hlen : len ≤ 1000 := Nat.le_of_ble_eq_true hb
  subst hi
  refine gw_iast hcd hl (vp_in_nI hj (by omega)) ?_
  rw [nI_clamp (by omega)]
  exact k
theorem gx_ift {c : ClassFile.Cond} {off : Int} {x : Int32} (hcd : gn_cd mi pc = some (.ifCond c off, nx, a, b, v)) (h : gn_cmp c x 0) (k : gn_W d mi a lo r σ Q) : gn_W d mi pc lo (.int x :: r) σ Q := gw_if hcd (fun _ => k) (fun q => absurd h q)
theorem gx_iff {c : ClassFile.Cond} {off : Int} {x : Int32} (hcd : gn_cd mi pc = some (.ifCond c off, nx, a, b, v)) (h : ¬ gn_cmp c x 0) (k : gn_W d mi nx lo r σ Q) : gn_W d mi pc lo (.int x :: r) σ Q := gw_if hcd (fun q => absurd q h) (fun _ => k)
theorem gx_ict {c : ClassFile.Cond} {off : Int} {x y : Int32} (hcd : gn_cd mi pc = some (.if_icmp c off, nx, a, b, v)) (h : gn_cmp c x y) (k : gn_W d mi a lo r σ Q) : gn_W d mi pc lo (.int y :: .int x :: r) σ Q := gw_icmp hcd (fun _ => k) (fun q => absurd h q)
theorem gx_icf {c : ClassFile.Cond} {off : Int} {x y : Int32} (hcd : gn_cd mi pc = some (.if_icmp c off, nx, a, b, v)) (h : ¬ gn_cmp c x y) (k : gn_W d mi nx lo r σ Q) : gn_W d mi pc lo (.int y :: .int x :: r) σ Q := gw_icmp hcd (fun q => absurd q h) (fun _ => k)
/-- a loop whose body takes the place i and an accumulator -/
def gf {α : Type} (f : Nat → α → α) : Nat → α → α
  | 0, x => x
  | n + 1, x => f n (gf f n x)
theorem gf_congr {α : Type} {f g : Nat → α → α} {n : Nat} (h : ∀ i x, i < n → f i x = g i x) (x : α) : gf f n x = gf g n x := by
  induction n with
  | zero => rfl
  | succ n ih =>
    show f n (gf f n x) = g n (gf g n x)
    rw [ih (fun i y hi => h i y (by omega)), h n _ (by omega)]
theorem gf_inv {α : Type} {f : Nat → α → α} {n : Nat} (P : Nat → α → Prop) {x : α} (h0 : P 0 x) (hs : ∀ i y, i < n → P i y → P (i + 1) (f i y)) : P n (gf f n x) := by
  induction n with
  | zero => exact h0
  | succ n ih => exact hs n _ (by omega) (ih (fun i y hi => hs i y (by omega)))
theorem gw_for {α : Type} (n : Nat) (f : Nat → α → α) (P : Nat → α → Prop) (lf : Nat → α → List Value) (mf : α → gn_Mem) (x : α) (h0 : P 0 x) (hs : ∀ i y, i < n → P i y → P (i + 1) (f i y)) (hb : ∀ i y, i < n → P i y → gn_W d mi pc (lf (i + 1) (f i y)) [] (mf (f i y)) Q → gn_W d mi pc (lf i y) [] (mf y) Q) (hx : P n (gf f n x) → gn_W d mi pc (lf n (gf f n x)) [] (mf (gf f n x)) Q) : gn_W d mi pc (lf 0 x) [] (mf x) Q := by
  have key : ∀ m, m ≤ n → gn_W d mi pc (lf (n - m) (gf f (n - m) x)) [] (mf (gf f (n - m) x)) Q := by
    intro m
    induction m with
    | zero =>
      intro _
      exact hx (gf_inv P h0 hs)
    | succ m ih =>
      intro hm
      have h1 := ih (by omega)
      have e : n - m = (n - (m + 1)) + 1 := by omega
      rw [e] at h1
      exact hb _ _ (by omega) (gf_inv P h0 (fun i y hi => hs i y (by omega))) h1
  have h1 := key n (Nat.le_refl _)
  rw [Nat.sub_self] at h1
  exact h1
end
theorem nI_lt0 {n : Nat} (h : n < 2 ^ 31) : ¬ nI n < 0 := nI_pos h
theorem bit_lt {s t : Nat} (hs : s < 256) (ht : t < 8) : (nI s >>> (nI t &&& 31) &&& 1 = 0) ↔ s.testBit t = false := by
  have h : ∀ s, s < 256 → ∀ t, t < 8 → ((nI s >>> (nI t &&& 31) &&& 1 = 0) ↔ s.testBit t = false) := by decide +kernel
  exact h s hs t ht
