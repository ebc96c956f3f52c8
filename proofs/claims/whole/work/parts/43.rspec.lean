/-! a text: what is read from it -/
abbrev rE (α : Type) : Type := (Nat × Nat) ⊕ α
def bnd {α β : Type} (r : rE α) (k : α → rE β) : rE β := match r with
  | .inl e => .inl e
  | .inr x => k x
def hrF (L : Nat → Nat) : Nat → Nat → Nat
  | 0, a => a
  | m + 1, a => if L a = 32 then hrF L m (a + 1) else a
def hr (L : Nat → Nat) (n a : Nat) : Nat := hrF L (n - a) a
abbrev fig (c : Nat) : Prop := 48 ≤ c ∧ c ≤ 57
def fgF (L : Nat → Nat) : Nat → Nat → Nat
  | 0, a => a
  | m + 1, a => if fig (L a) then fgF L m (a + 1) else a
def fg (L : Nat → Nat) (n a : Nat) : Nat := fgF L (n - a) a
section
variable {L : Nat → Nat} {n a : Nat}
theorem hr_step (h : a < n) (h2 : L a = 32) : hr L n a = hr L n (a + 1) := by
  unfold hr
  obtain ⟨m, hm⟩ : ∃ m, n - a = m + 1 := ⟨n - a - 1, by omega⟩
  rw [hm, show n - (a + 1) = m by omega]
  show (if L a = 32 then _ else _) = _
  rw [if_pos h2]
theorem hr_stop (h : ¬ (a < n ∧ L a = 32)) : hr L n a = a := by
  unfold hr
  cases hm : n - a with
  | zero => rfl
  | succ m =>
    show (if L a = 32 then _ else _) = _
    rw [if_neg (fun q => h ⟨by omega, q⟩)]
theorem hr_le' : ∀ m a, n - a = m → a ≤ n → a ≤ hr L n a ∧ hr L n a ≤ n ∧ ¬ (hr L n a < n ∧ L (hr L n a) = 32) := by
  intro m
  induction m with
  | zero =>
    intro a hm ha
    rw [hr_stop (fun q => by omega)]
    exact ⟨Nat.le_refl _, ha, fun q => by omega⟩
  | succ m ih =>
    intro a hm ha
    by_cases q : a < n ∧ L a = 32
    · rw [hr_step q.1 q.2]
      have := ih (a + 1) (by omega) (by omega)
      exact ⟨by omega, this.2.1, this.2.2⟩
    · rw [hr_stop q]
      exact ⟨Nat.le_refl _, ha, q⟩
theorem hr_le (h : a ≤ n) : a ≤ hr L n a ∧ hr L n a ≤ n := ⟨(hr_le' (L := L) _ a rfl h).1, (hr_le' (L := L) _ a rfl h).2.1⟩
theorem hr_hr (h : a ≤ n) : hr L n (hr L n a) = hr L n a := hr_stop (hr_le' _ a rfl h).2.2
theorem fg_step (h : a < n) (h2 : fig (L a)) : fg L n a = fg L n (a + 1) := by
  unfold fg
  obtain ⟨m, hm⟩ : ∃ m, n - a = m + 1 := ⟨n - a - 1, by omega⟩
  rw [hm, show n - (a + 1) = m by omega]
  show (if fig (L a) then _ else _) = _
  rw [if_pos h2]
theorem fg_stop (h : ¬ (a < n ∧ fig (L a))) : fg L n a = a := by
  unfold fg
  cases hm : n - a with
  | zero => rfl
  | succ m =>
    show (if fig (L a) then _ else _) = _
    rw [if_neg (fun q => h ⟨by omega, q⟩)]
theorem fg_le' : ∀ m a, n - a = m → a ≤ n → a ≤ fg L n a ∧ fg L n a ≤ n := by
  intro m
  induction m with
  | zero =>
    intro a hm ha
    rw [fg_stop (fun q => by omega)]
    exact ⟨Nat.le_refl _, ha⟩
  | succ m ih =>
    intro a hm ha
    by_cases q : a < n ∧ fig (L a)
    · rw [fg_step q.1 q.2]
      have := ih (a + 1) (by omega) (by omega)
      exact ⟨by omega, this.2⟩
    · rw [fg_stop q]
      exact ⟨Nat.le_refl _, ha⟩
theorem fg_le (h : a ≤ n) : a ≤ fg L n a ∧ fg L n a ≤ n := fg_le' _ a rfl h
end
/-- the first j figures' value -/
def dv (L : Nat → Nat) (p : Nat) : Nat → Nat
  | 0 => 0
  | j + 1 => 10 * dv L p j + (L (p + j) - 48)
def numS (L : Nat → Nat) (n hi a : Nat) : rE (Nat × Nat) :=
  if hr L n a < n ∧ fig (L (hr L n a)) then (if 3 < fg L n (hr L n a) - hr L n a ∨ hi < dv L (hr L n a) (fg L n (hr L n a) - hr L n a) then .inl (2, hr L n a) else .inr (dv L (hr L n a) (fg L n (hr L n a) - hr L n a), fg L n (hr L n a))) else .inl (1, hr L n a)
theorem numS_ok {L : Nat → Nat} {n hi a v q : Nat} (ha : a ≤ n) (h : numS L n hi a = .inr (v, q)) : v ≤ hi ∧ a < q ∧ q ≤ n := by
  unfold numS at h
  have h1 := hr_le (L := L) ha
  split at h
  · rename_i c1
    split at h
    · cases h
    · rename_i c2
      have h2 := fg_le (L := L) (n := n) (a := hr L n a + 1) (by omega)
      have h3 := fg_step c1.1 c1.2
      cases h
      omega
  · cases h
theorem numS_er {L : Nat → Nat} {n hi a : Nat} {e : Nat × Nat} (ha : a ≤ n) (h : numS L n hi a = .inl e) : 1 ≤ e.1 ∧ e.1 ≤ 3 ∧ e.2 ≤ n := by
  unfold numS at h
  have h1 := hr_le (L := L) ha
  split at h
  · split at h
    · cases h
      exact ⟨by omega, by omega, h1.2⟩
    · cases h
  · cases h
    exact ⟨by omega, by omega, h1.2⟩
def dUp (D : gD) (c a b v : Nat) : gD := fun c' a' b' => if c' = c ∧ a' = a ∧ b' = b then v else D c' a' b'
def dAddG (D : gD) (v : Nat) : gD := dUp (dUp (dUp D 3 (dG D) 0 v) 4 (dG D) 0 0) 0 0 0 (dG D + 1)
def dAddC (D : gD) (v : Nat) : gD := dUp (dUp (dUp D 5 (dG D - 1) (dC D (dG D - 1)) (v / 10)) 6 (dG D - 1) (dC D (dG D - 1)) (v % 10)) 4 (dG D - 1) 0 (dC D (dG D - 1) + 1)
def dAddH (D : gD) (kd v : Nat) : gD := dUp (dUp (dUp D 7 (dH D) 0 kd) 8 (dH D) 0 v) 1 0 0 (dH D + 1)
def dTru (D : gD) (v : Nat) : gD := dUp (dUp D 2 0 0 v) 9 0 0 1
def endS (L : Nat → Nat) (n : Nat) (q : Nat) (D : gD) : rE (Nat × gD) := if hr L n q < n ∧ L (hr L n q) = 59 then .inr (hr L n q + 1, D) else .inl (1, hr L n q)
/-- more claims, m at most -/
def gcl (L : Nat → Nat) (n : Nat) : Nat → Nat → gD → rE (Nat × gD)
  | 0, a, D => .inr (a, D)
  | m + 1, a, D => if hr L n a < n ∧ L (hr L n a) = 44 then bnd (numS L n 79 (hr L n a + 1)) (fun y => gcl L n m y.2 (dAddC D y.1)) else .inr (hr L n a, D)
def clS (L : Nat → Nat) (n a : Nat) (D : gD) : rE (Nat × gD) :=
  if dE D = 0 then (if L (hr L n a) = 116 then bnd (numS L n 255 (hr L n a + 1)) (fun y => endS L n y.2 (dTru D y.1)) else .inl (1, hr L n a))
  else if L (hr L n a) = 103 then (if dG D < 6 then bnd (numS L n 9 (hr L n a + 1)) (fun y => bnd (numS L n 79 y.2) (fun u => bnd (gcl L n 5 u.2 (dAddC (dAddG D y.1) u.1)) (fun w => endS L n w.1 w.2))) else .inl (3, hr L n a))
  else if L (hr L n a) = 104 then (if dH D < 4 then bnd (numS L n 3 (hr L n a + 1)) (fun y => bnd (numS L n 9 y.2) (fun u => endS L n u.2 (dAddH D y.1 u.1))) else .inl (3, hr L n a))
  else .inl (if L (hr L n a) = 116 then 3 else 1, hr L n a)
def rdS (L : Nat → Nat) (n : Nat) : Nat → Nat → gD → rE gD
  | 0, _, D => .inr D
  | m + 1, a, D => if hr L n a < n then bnd (clS L n a D) (fun y => rdS L n m y.1 y.2) else .inr D
/-! the numbers' bounds while it is read -/
def gB (D : gD) : Prop := dG D ≤ 6 ∧ dH D ≤ 4 ∧ dE D ≤ 1 ∧ ∀ g, g < dG D → dC D g ≤ 6 ∧ ∀ k, k < dC D g → dT D g k < 8
section
variable {D : gD} {v : Nat}
theorem aG_G : dG (dAddG D v) = dG D + 1 := by simp [dAddG, dUp]
theorem aG_H : dH (dAddG D v) = dH D := by simp [dAddG, dUp]
theorem aG_E : dE (dAddG D v) = dE D := by simp [dAddG, dUp]
theorem aG_F : dF (dAddG D v) = dF D := by simp [dAddG, dUp]
theorem aG_P {g : Nat} : dP (dAddG D v) g = if g = dG D then v else dP D g := by simp [dAddG, dUp]
theorem aG_C {g : Nat} : dC (dAddG D v) g = if g = dG D then 0 else dC D g := by simp [dAddG, dUp]
theorem aG_T {g k : Nat} : dT (dAddG D v) g k = dT D g k := by simp [dAddG, dUp]
theorem aG_B {g k : Nat} : dB (dAddG D v) g k = dB D g k := by simp [dAddG, dUp]
theorem aG_K {g : Nat} : dK (dAddG D v) g = dK D g := by simp [dAddG, dUp]
theorem aG_N {g : Nat} : dN (dAddG D v) g = dN D g := by simp [dAddG, dUp]
theorem aC_G : dG (dAddC D v) = dG D := by simp [dAddC, dUp]
theorem aC_H : dH (dAddC D v) = dH D := by simp [dAddC, dUp]
theorem aC_E : dE (dAddC D v) = dE D := by simp [dAddC, dUp]
theorem aC_F : dF (dAddC D v) = dF D := by simp [dAddC, dUp]
theorem aC_P {g : Nat} : dP (dAddC D v) g = dP D g := by simp [dAddC, dUp]
theorem aC_C {g : Nat} : dC (dAddC D v) g = if g = dG D - 1 then dC D (dG D - 1) + 1 else dC D g := by simp [dAddC, dUp]
theorem aC_T {g k : Nat} : dT (dAddC D v) g k = if g = dG D - 1 ∧ k = dC D (dG D - 1) then v / 10 else dT D g k := by simp [dAddC, dUp]
theorem aC_B {g k : Nat} : dB (dAddC D v) g k = if g = dG D - 1 ∧ k = dC D (dG D - 1) then v % 10 else dB D g k := by simp [dAddC, dUp]
theorem aC_K {g : Nat} : dK (dAddC D v) g = dK D g := by simp [dAddC, dUp]
theorem aC_N {g : Nat} : dN (dAddC D v) g = dN D g := by simp [dAddC, dUp]
variable {kd : Nat}
theorem aH_G : dG (dAddH D kd v) = dG D := by simp [dAddH, dUp]
theorem aH_H : dH (dAddH D kd v) = dH D + 1 := by simp [dAddH, dUp]
theorem aH_E : dE (dAddH D kd v) = dE D := by simp [dAddH, dUp]
theorem aH_F : dF (dAddH D kd v) = dF D := by simp [dAddH, dUp]
theorem aH_P {g : Nat} : dP (dAddH D kd v) g = dP D g := by simp [dAddH, dUp]
theorem aH_C {g : Nat} : dC (dAddH D kd v) g = dC D g := by simp [dAddH, dUp]
theorem aH_T {g k : Nat} : dT (dAddH D kd v) g k = dT D g k := by simp [dAddH, dUp]
theorem aH_B {g k : Nat} : dB (dAddH D kd v) g k = dB D g k := by simp [dAddH, dUp]
theorem aH_K {g : Nat} : dK (dAddH D kd v) g = if g = dH D then kd else dK D g := by simp [dAddH, dUp]
theorem aH_N {g : Nat} : dN (dAddH D kd v) g = if g = dH D then v else dN D g := by simp [dAddH, dUp]
theorem aT_G : dG (dTru D v) = dG D := by simp [dTru, dUp]
theorem aT_H : dH (dTru D v) = dH D := by simp [dTru, dUp]
theorem aT_E : dE (dTru D v) = 1 := by simp [dTru, dUp]
theorem aT_F : dF (dTru D v) = v := by simp [dTru, dUp]
theorem aT_P {g : Nat} : dP (dTru D v) g = dP D g := by simp [dTru, dUp]
theorem aT_C {g : Nat} : dC (dTru D v) g = dC D g := by simp [dTru, dUp]
theorem aT_T {g k : Nat} : dT (dTru D v) g k = dT D g k := by simp [dTru, dUp]
theorem aT_B {g k : Nat} : dB (dTru D v) g k = dB D g k := by simp [dTru, dUp]
theorem aT_K {g : Nat} : dK (dTru D v) g = dK D g := by simp [dTru, dUp]
theorem aT_N {g : Nat} : dN (dTru D v) g = dN D g := by simp [dTru, dUp]
theorem dSn_congr {D D' : gD} {g : Nat} : ∀ {n : Nat}, (∀ k, k < n → dT D' g k = dT D g k) → dSn D' g n = dSn D g n
  | 0, _ => rfl
  | n + 1, h => by
    show dSn D' g n ||| 2 ^ dT D' g n = dSn D g n ||| 2 ^ dT D g n
    rw [dSn_congr (fun k hk => h k (by omega)), h n (by omega)]
theorem aG_S {g : Nat} : dS (dAddG D v) g = if g = dG D then 0 else dS D g := by
  unfold dS
  rw [aG_C]
  by_cases e : g = dG D
  · rw [if_pos e, if_pos e]; rfl
  · rw [if_neg e, if_neg e]
    exact dSn_congr (fun k _ => aG_T)
theorem aC_S {g : Nat} : dS (dAddC D v) g = if g = dG D - 1 then dS D (dG D - 1) ||| 2 ^ (v / 10) else dS D g := by
  unfold dS
  rw [aC_C]
  by_cases e : g = dG D - 1
  · rw [if_pos e, if_pos e, e]
    show dSn _ _ _ ||| 2 ^ dT (dAddC D v) (dG D - 1) (dC D (dG D - 1)) = _
    rw [aC_T, if_pos ⟨rfl, rfl⟩, dSn_congr (D := D)]
    intro k hk
    rw [aC_T, if_neg (fun q => by omega)]
  · rw [if_neg e, if_neg e]
    refine dSn_congr (fun k hk => ?_)
    rw [aC_T, if_neg (fun q => e q.1)]
theorem aH_S {g : Nat} : dS (dAddH D kd v) g = dS D g := by
  unfold dS
  rw [aH_C]
  exact dSn_congr (fun k _ => aH_T)
theorem aT_S {g : Nat} : dS (dTru D v) g = dS D g := by
  unfold dS
  rw [aT_C]
  exact dSn_congr (fun k _ => aT_T)
theorem gB_G (h : gB D) (hG : dG D < 6) : gB (dAddG D v) := by
  refine ⟨by rw [aG_G]; omega, by rw [aG_H]; exact h.2.1, by rw [aG_E]; exact h.2.2.1, fun g hg => ?_⟩
  rw [aG_G] at hg
  rw [aG_C]
  by_cases e : g = dG D
  · rw [if_pos e]; exact ⟨by omega, fun k hk => by omega⟩
  · rw [if_neg e]
    have := h.2.2.2 g (by omega)
    exact ⟨this.1, fun k hk => by rw [aG_T]; exact this.2 k hk⟩
theorem gB_C (h : gB D) (hC : dC D (dG D - 1) < 6) (hv : v ≤ 79) : gB (dAddC D v) := by
  refine ⟨by rw [aC_G]; exact h.1, by rw [aC_H]; exact h.2.1, by rw [aC_E]; exact h.2.2.1, fun g hg => ?_⟩
  rw [aC_G] at hg
  have hh := h.2.2.2 g hg
  rw [aC_C]
  by_cases e : g = dG D - 1
  · rw [if_pos e]
    refine ⟨by omega, fun k hk => ?_⟩
    rw [aC_T]
    by_cases e2 : k = dC D (dG D - 1)
    · rw [if_pos ⟨e, e2⟩]; omega
    · rw [if_neg (fun q => e2 q.2)]
      exact hh.2 k (by rw [e]; omega)
  · rw [if_neg e]
    refine ⟨hh.1, fun k hk => ?_⟩
    rw [aC_T, if_neg (fun q => e q.1)]
    exact hh.2 k hk
theorem gB_H (h : gB D) (hH : dH D < 4) : gB (dAddH D kd v) := by
  refine ⟨by rw [aH_G]; exact h.1, by rw [aH_H]; omega, by rw [aH_E]; exact h.2.2.1, fun g hg => ?_⟩
  rw [aH_G] at hg
  rw [aH_C]
  exact ⟨(h.2.2.2 g hg).1, fun k hk => by rw [aH_T]; exact (h.2.2.2 g hg).2 k hk⟩
theorem gB_T (h : gB D) : gB (dTru D v) := by
  refine ⟨by rw [aT_G]; exact h.1, by rw [aT_H]; exact h.2.1, by rw [aT_E]; omega, fun g hg => ?_⟩
  rw [aT_G] at hg
  rw [aT_C]
  exact ⟨(h.2.2.2 g hg).1, fun k hk => by rw [aT_T]; exact (h.2.2.2 g hg).2 k hk⟩
theorem gB_S (h : gB D) {g : Nat} (hg : g < dG D) : dS D g < 256 := by
  have hh := h.2.2.2 g hg
  have key : ∀ n, n ≤ dC D g → dSn D g n < 256 := by
    intro n
    induction n with
    | zero => intro _; exact (by omega : 0 < 256)
    | succ n ih =>
      intro hn
      have h8 := hh.2 n (by omega)
      exact Nat.or_lt_two_pow (n := 8) (ih (by omega)) (Nat.pow_lt_pow_right (by omega) h8)
  exact key _ (Nat.le_refl _)
end
/-! bounds of what a clause gives -/
/-- as gW, but the last guest may have any number of claims up to 6 -/
def gWl (D : gD) : Prop := dG D ≤ 6 ∧ dH D ≤ 4 ∧ dE D ≤ 1 ∧ dF D < 256 ∧ (∀ g, g < dG D → dP D g ≤ 9 ∧ (g + 1 < dG D → 1 ≤ dC D g) ∧ dC D g ≤ 6) ∧ (∀ g k, g < dG D → k < dC D g → dT D g k < 8 ∧ dB D g k ≤ 9) ∧ (∀ h, h < dH D → dK D h ≤ 3 ∧ dN D h ≤ 9)
theorem gW_l {D : gD} (h : gW D) : gWl D := ⟨h.1, h.2.1, h.2.2.1, h.2.2.2.1, fun g hg => ⟨(h.2.2.2.2.1 g hg).1, fun _ => (h.2.2.2.2.1 g hg).2.1, (h.2.2.2.2.1 g hg).2.2⟩, h.2.2.2.2.2.1, h.2.2.2.2.2.2⟩
theorem gWl_W {D : gD} (h : gWl D) (h1 : 1 ≤ dC D (dG D - 1)) : gW D := ⟨h.1, h.2.1, h.2.2.1, h.2.2.2.1, fun g hg => ⟨(h.2.2.2.2.1 g hg).1, by
  by_cases e : g + 1 < dG D
  · exact (h.2.2.2.2.1 g hg).2.1 e
  · rw [show g = dG D - 1 by omega]; exact h1, (h.2.2.2.2.1 g hg).2.2⟩, h.2.2.2.2.2.1, h.2.2.2.2.2.2⟩
theorem gWl_G {D : gD} {v : Nat} (h : gW D) (hG : dG D < 6) (hv : v ≤ 9) : gWl (dAddG D v) := by
  refine ⟨by rw [aG_G]; omega, by rw [aG_H]; exact h.2.1, by rw [aG_E]; exact h.2.2.1, by rw [aG_F]; exact h.2.2.2.1, fun g hg => ?_, fun g k hg hk => ?_, fun g hg => ?_⟩
  · rw [aG_G] at hg ⊢
    rw [aG_P, aG_C]
    by_cases e : g = dG D
    · rw [if_pos e, if_pos e]; exact ⟨hv, fun q => by omega, by omega⟩
    · rw [if_neg e, if_neg e]
      have := h.2.2.2.2.1 g (by omega)
      exact ⟨this.1, fun _ => this.2.1, this.2.2⟩
  · rw [aG_G] at hg
    rw [aG_C] at hk
    by_cases e : g = dG D
    · rw [if_pos e] at hk; omega
    · rw [if_neg e] at hk
      rw [aG_T, aG_B]
      exact h.2.2.2.2.2.1 g k (by omega) hk
  · rw [aG_H] at hg
    rw [aG_K, aG_N]
    exact h.2.2.2.2.2.2 g hg
theorem gWl_C {D : gD} {v : Nat} (h : gWl D) (hC : dC D (dG D - 1) < 6) (hv : v ≤ 79) : gWl (dAddC D v) := by
  refine ⟨by rw [aC_G]; exact h.1, by rw [aC_H]; exact h.2.1, by rw [aC_E]; exact h.2.2.1, by rw [aC_F]; exact h.2.2.2.1, fun g hg => ?_, fun g k hg hk => ?_, fun g hg => ?_⟩
  · rw [aC_G] at hg ⊢
    rw [aC_P, aC_C]
    have := h.2.2.2.2.1 g hg
    by_cases e : g = dG D - 1
    · rw [if_pos e]; exact ⟨this.1, fun q => by omega, by omega⟩
    · rw [if_neg e]; exact this
  · rw [aC_G] at hg
    rw [aC_C] at hk
    rw [aC_T, aC_B]
    by_cases e : g = dG D - 1 ∧ k = dC D (dG D - 1)
    · rw [if_pos e, if_pos e]; omega
    · rw [if_neg e, if_neg e]
      by_cases e2 : g = dG D - 1
      · rw [if_pos e2] at hk
        exact h.2.2.2.2.2.1 g k hg (by
          have : ¬ k = dC D (dG D - 1) := fun q => e ⟨e2, q⟩
          rw [e2]; omega)
      · rw [if_neg e2] at hk
        exact h.2.2.2.2.2.1 g k hg hk
  · rw [aC_H] at hg
    rw [aC_K, aC_N]
    exact h.2.2.2.2.2.2 g hg
theorem gW_H {D : gD} {kd v : Nat} (h : gW D) (hH : dH D < 4) (hk : kd ≤ 3) (hv : v ≤ 9) : gW (dAddH D kd v) := by
  refine ⟨by rw [aH_G]; exact h.1, by rw [aH_H]; omega, by rw [aH_E]; exact h.2.2.1, by rw [aH_F]; exact h.2.2.2.1, fun g hg => ?_, fun g k hg hk => ?_, fun g hg => ?_⟩
  · rw [aH_G] at hg
    rw [aH_P, aH_C]
    exact h.2.2.2.2.1 g hg
  · rw [aH_G] at hg
    rw [aH_C] at hk
    rw [aH_T, aH_B]
    exact h.2.2.2.2.2.1 g k hg hk
  · rw [aH_H] at hg
    rw [aH_K, aH_N]
    by_cases e : g = dH D
    · rw [if_pos e, if_pos e]; exact ⟨hk, hv⟩
    · rw [if_neg e, if_neg e]; exact h.2.2.2.2.2.2 g (by omega)
theorem gW_T {D : gD} {v : Nat} (h : gW D) (hv : v ≤ 255) : gW (dTru D v) := by
  refine ⟨by rw [aT_G]; exact h.1, by rw [aT_H]; exact h.2.1, by rw [aT_E]; omega, by rw [aT_F]; omega, fun g hg => ?_, fun g k hg hk => ?_, fun g hg => ?_⟩
  · rw [aT_G] at hg
    rw [aT_P, aT_C]
    exact h.2.2.2.2.1 g hg
  · rw [aT_G] at hg
    rw [aT_C] at hk
    rw [aT_T, aT_B]
    exact h.2.2.2.2.2.1 g k hg hk
  · rw [aT_H] at hg
    rw [aT_K, aT_N]
    exact h.2.2.2.2.2.2 g hg
theorem bnd_r {α β : Type} {r : rE α} {k : α → rE β} {y : β} (h : bnd r k = .inr y) : ∃ x, r = .inr x ∧ k x = .inr y := by
  cases r with
  | inl e => cases h
  | inr x => exact ⟨x, rfl, h⟩
theorem bnd_l {α β : Type} {r : rE α} {k : α → rE β} {e : Nat × Nat} (h : bnd r k = .inl e) : r = .inl e ∨ ∃ x, r = .inr x ∧ k x = .inl e := by
  cases r with
  | inl e' => cases h; exact Or.inl rfl
  | inr x => exact Or.inr ⟨x, rfl, h⟩
theorem endS_ok {L : Nat → Nat} {n a q : Nat} {D D' : gD} (ha : a ≤ n) (h : endS L n a D = .inr (q, D')) : D' = D ∧ a < q ∧ q ≤ n := by
  unfold endS at h
  have h1 := hr_le (L := L) ha
  split at h
  · cases h; exact ⟨rfl, by omega, by omega⟩
  · cases h
theorem gcl_ok {L : Nat → Nat} {n : Nat} : ∀ m a D q D', a ≤ n → gWl D → dC D (dG D - 1) + m ≤ 6 → 1 ≤ dC D (dG D - 1) → gcl L n m a D = .inr (q, D') → a ≤ q ∧ q ≤ n ∧ gW D' := by
  intro m
  induction m with
  | zero =>
    intro a D q D' ha hW _ h1 h
    cases h
    exact ⟨Nat.le_refl _, ha, gWl_W hW h1⟩
  | succ m ih =>
    intro a D q D' ha hW hm h1 h
    unfold gcl at h
    have h2 := hr_le (L := L) ha
    split at h
    · rename_i c
      obtain ⟨x, e1, e2⟩ := bnd_r h
      have h3 := numS_ok (by omega) (show numS L n 79 (hr L n a + 1) = .inr (x.1, x.2) from e1)
      have hc : dC (dAddC D x.1) (dG (dAddC D x.1) - 1) = dC D (dG D - 1) + 1 := by rw [aC_G, aC_C, if_pos rfl]
      have h4 := ih x.2 _ q D' h3.2.2 (gWl_C hW (by omega) h3.1) (by rw [hc]; omega) (by rw [hc]; omega) e2
      exact ⟨by omega, h4.2.1, h4.2.2⟩
    · cases h
      exact ⟨h2.1, h2.2, gWl_W hW h1⟩
theorem clS_ok {L : Nat → Nat} {n a q : Nat} {D D' : gD} (ha : a ≤ n) (hn : hr L n a < n) (hW : gW D) (h : clS L n a D = .inr (q, D')) : gW D' ∧ a < q ∧ q ≤ n := by
  have h1 := hr_le (L := L) ha
  unfold clS at h
  split at h
  · split at h
    · obtain ⟨x, e1, e2⟩ := bnd_r h
      have h3 := numS_ok (by omega) (show numS L n 255 (hr L n a + 1) = .inr (x.1, x.2) from e1)
      have h4 := endS_ok h3.2.2 e2
      rw [h4.1]
      exact ⟨gW_T hW h3.1, by omega, h4.2.2⟩
    · cases h
  · split at h
    · split at h
      · rename_i hG
        obtain ⟨x, e1, e2⟩ := bnd_r h
        have h3 := numS_ok (by omega) (show numS L n 9 (hr L n a + 1) = .inr (x.1, x.2) from e1)
        obtain ⟨u, e3, e4⟩ := bnd_r e2
        have h5 := numS_ok h3.2.2 (show numS L n 79 x.2 = .inr (u.1, u.2) from e3)
        obtain ⟨w, e6, e7⟩ := bnd_r e4
        have c0 : dC (dAddG D x.1) (dG (dAddG D x.1) - 1) = 0 := by rw [aG_G, aG_C, if_pos (by omega)]
        have c1 : dC (dAddC (dAddG D x.1) u.1) (dG (dAddC (dAddG D x.1) u.1) - 1) = 1 := by rw [aC_G, aC_C, if_pos rfl, c0]
        have h8 := gcl_ok 5 u.2 _ w.1 w.2 h5.2.2 (gWl_C (gWl_G hW hG h3.1) (by rw [c0]; omega) h5.1) (by rw [c1]; omega) (by rw [c1]; omega) e6
        have h9 := endS_ok h8.2.1 e7
        rw [h9.1]
        exact ⟨h8.2.2, by omega, h9.2.2⟩
      · cases h
    · split at h
      · split at h
        · rename_i hH
          obtain ⟨x, e1, e2⟩ := bnd_r h
          have h3 := numS_ok (by omega) (show numS L n 3 (hr L n a + 1) = .inr (x.1, x.2) from e1)
          obtain ⟨u, e3, e4⟩ := bnd_r e2
          have h5 := numS_ok h3.2.2 (show numS L n 9 x.2 = .inr (u.1, u.2) from e3)
          have h6 := endS_ok h5.2.2 e4
          rw [h6.1]
          exact ⟨gW_H hW hH h3.1 h5.1, by omega, h6.2.2⟩
        · cases h
      · cases h
