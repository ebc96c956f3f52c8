/-! plans: in their order, and by numbers to the base five -/
theorem gf_add {α : Type} {f : Nat → α → α} {a : Nat} : ∀ b x, gf f (a + b) x = gf (fun i => f (a + i)) b (gf f a x)
  | 0, _ => rfl
  | b + 1, x => by
    show f (a + b) (gf f (a + b) x) = f (a + b) (gf (fun i => f (a + i)) b (gf f a x))
    rw [gf_add b x]
theorem gf_id {α : Type} {f : Nat → α → α} {n : Nat} {x : α} (h : ∀ i, i < n → f i x = x) : gf f n x = x := by
  induction n with
  | zero => rfl
  | succ n ih =>
    show f n (gf f n x) = x
    rw [ih (fun i hi => h i (by omega)), h n (by omega)]
theorem gf_blk {α : Type} {f : Nat → α → α} {m : Nat} : ∀ n x, gf f (n * m) x = gf (fun t y => gf (fun i z => f (t * m + i) z) m y) n x
  | 0, x => by rw [Nat.zero_mul]; rfl
  | n + 1, x => by
    rw [Nat.succ_mul, gf_add, gf_blk n x]
    rfl
def pG (D : gD) (A : gA) (g h : Nat) : Nat := mxJ D g h (A g - 1) (dC D g - (A g - 1))
abbrev gS : Type := Nat × Nat
def ldn (left : Nat → Nat) (h : Nat) : Nat → Nat := fun j => if j = h then left j - 1 else left j
def vis (D : gD) (A : gA) : Nat → Nat → (Nat → Nat) → Nat → gS → gS
  | 0, c, _, sum, S => if S.1 ≤ sum then (sum + 1, c) else S
  | r + 1, c, left, sum, S => vis D A r (5 * c + 4) left sum (gf (fun h S => if A (6 + (dG D - (r + 1))) = 0 ∧ 0 < left h then vis D A r (5 * c + h) (ldn left h) (sum + pG D A (dG D - (r + 1)) h) S else S) (dH D) S)
/-- the most that a guest could bring -/
def pH (D : gD) (A : gA) (g : Nat) : Nat := gf (fun h y => max y (if A (6 + g) = 0 ∧ 0 < A (20 + h) then pG D A g h else 0)) (dH D) 0
def ho (D : gD) (A : gA) : Nat → Nat
  | 0 => 0
  | r + 1 => ho D A r + pH D A (dG D - (r + 1))
theorem gf_max_ge {w : Nat → Nat} {n h : Nat} (hh : h < n) : w h ≤ gf (fun h y => max y (w h)) n 0 := by
  induction n with
  | zero => omega
  | succ n ih =>
    show w h ≤ max (gf (fun h y => max y (w h)) n 0) (w n)
    by_cases e : h = n
    · rw [e]; exact Nat.le_max_right _ _
    · exact Nat.le_trans (ih (by omega)) (Nat.le_max_left _ _)
theorem gf_max_le {w : Nat → Nat} {n M : Nat} (hw : ∀ h, h < n → w h ≤ M) : gf (fun h y => max y (w h)) n 0 ≤ M := by
  induction n with
  | zero => exact Nat.zero_le _
  | succ n ih =>
    show max (gf (fun h y => max y (w h)) n 0) (w n) ≤ M
    exact Nat.max_le.mpr ⟨ih (fun h hh => hw h (by omega)), hw n (by omega)⟩
theorem pG_le {D : gD} {A : gA} (hW : gW D) (hA : wA2 D A) {g h : Nat} (hg : g < dG D) (hh : h < dH D) : pG D A g h ≤ 28 := by
  have hc := hW.2.2.2.2.1 g hg
  have ha := hA.1 g hg
  exact hW.mxJ hg hh (by omega)
theorem pH_le {D : gD} {A : gA} (hW : gW D) (hA : wA2 D A) {g : Nat} (hg : g < dG D) : pH D A g ≤ 28 := by
  refine gf_max_le (w := fun h => if A (6 + g) = 0 ∧ 0 < A (20 + h) then pG D A g h else 0) (fun h hh => ?_)
  show (if _ then _ else _) ≤ 28
  split
  · exact pG_le hW hA hg hh
  · omega
theorem pH_ge {D : gD} {A : gA} {g h : Nat} (hh : h < dH D) (h1 : A (6 + g) = 0) (h2 : 0 < A (20 + h)) : pG D A g h ≤ pH D A g := by
  have := gf_max_ge (w := fun h => if A (6 + g) = 0 ∧ 0 < A (20 + h) then pG D A g h else 0) hh
  rw [if_pos ⟨h1, h2⟩] at this
  exact this
theorem ho_le {D : gD} {A : gA} (hW : gW D) (hA : wA2 D A) : ∀ r, r ≤ dG D → ho D A r ≤ 28 * r
  | 0, _ => Nat.le_refl _
  | r + 1, h => by
    have h1 := ho_le hW hA r (by omega)
    have h2 := pH_le hW hA (g := dG D - (r + 1)) (by omega)
    show ho D A r + pH D A (dG D - (r + 1)) ≤ 28 * (r + 1)
    omega
theorem ldn_le {left : Nat → Nat} {h j : Nat} : ldn left h j ≤ left j := by
  unfold ldn
  split <;> omega
/-- where there is nothing more to hope, nothing changes -/
theorem vis_cut {D : gD} {A : gA} : ∀ r c left sum S, (∀ h, h < dH D → left h ≤ A (20 + h)) → sum + ho D A r < S.1 → vis D A r c left sum S = S := by
  intro r
  induction r with
  | zero =>
    intro c left sum S _ h
    have h : sum + 0 < S.1 := h
    show (if S.1 ≤ sum then (sum + 1, c) else S) = S
    rw [if_neg (by omega)]
  | succ r ih =>
    intro c left sum S hl h
    have h : sum + (ho D A r + pH D A (dG D - (r + 1))) < S.1 := h
    show vis D A r (5 * c + 4) left sum (gf _ (dH D) S) = S
    rw [gf_id]
    · exact ih _ _ _ _ hl (by omega)
    · intro i hi
      split
      · rename_i q
        have := pH_ge (g := dG D - (r + 1)) hi q.1 (Nat.lt_of_lt_of_le q.2 (hl i hi))
        exact ih _ _ _ _ (fun h hh => Nat.le_trans ldn_le (hl h hh)) (by omega)
      · rfl
theorem vis_pos {D : gD} {A : gA} : ∀ r c left sum S, (vis D A r c left sum S).1 ≠ 0 := by
  intro r
  induction r with
  | zero =>
    intro c left sum S
    show (if S.1 ≤ sum then (sum + 1, c) else S).1 ≠ 0
    split
    · exact Nat.succ_ne_zero _
    · omega
  | succ r ih => intro c left sum S; exact ih _ _ _ _
theorem vis_le {D : gD} {A : gA} (hW : gW D) (hA : wA2 D A) : ∀ r c left sum S, r ≤ dG D → sum ≤ 28 * (dG D - r) → S.1 ≤ 28 * dG D + 1 → (vis D A r c left sum S).1 ≤ 28 * dG D + 1 := by
  intro r
  induction r with
  | zero =>
    intro c left sum S _ h1 h2
    show (if S.1 ≤ sum then (sum + 1, c) else S).1 ≤ _
    split
    · show sum + 1 ≤ _
      omega
    · exact h2
  | succ r ih =>
    intro c left sum S hr h1 h2
    refine ih _ _ _ _ (by omega) (by omega) ?_
    refine gf_inv (fun _ (y : gS) => y.1 ≤ 28 * dG D + 1) h2 ?_
    intro i y hi hy
    show (if _ then _ else y).1 ≤ _
    split
    · have := pG_le hW hA (g := dG D - (r + 1)) (h := i) (by omega) hi
      exact ih _ _ _ _ (by omega) (by omega) hy
    · exact hy
/-- a plan by its number, from the last guest on -/
def evM (D : gD) (A : gA) (g0 : Nat) : Nat → Nat → (Nat → Nat) → Option Nat
  | 0, _, _ => some 0
  | n + 1, p, left => if p % 5 < 4 then (if p % 5 < dH D ∧ A (6 + (g0 + n)) = 0 ∧ 0 < left (p % 5) then (evM D A g0 n (p / 5) (ldn left (p % 5))).map (· + pG D A (g0 + n) (p % 5)) else none) else evM D A g0 n (p / 5) left
theorem ldn_comm (left : Nat → Nat) (a b : Nat) : ldn (ldn left a) b = ldn (ldn left b) a := by
  funext j
  unfold ldn
  by_cases h1 : j = a
  · by_cases h2 : j = b
    · rw [if_pos h1, if_pos h2, if_pos h1, if_pos h2]
    · rw [if_pos h1, if_neg h2, if_pos h1, if_neg h2]
  · by_cases h2 : j = b
    · rw [if_neg h1, if_pos h2, if_neg h1]
    · rw [if_neg h1, if_neg h2, if_neg h1]
theorem ldn_two {left : Nat → Nat} {a b : Nat} : (0 < left a ∧ 0 < ldn left a b) ↔ (0 < left b ∧ 0 < ldn left b a) := by
  unfold ldn
  by_cases h : b = a
  · subst h; rfl
  · have h' : ¬ a = b := fun e => h e.symm
    rw [if_neg h, if_neg h']
    exact And.comm
theorem evM_top {D : gD} {A : gA} {g0 t : Nat} (ht : t < 5) : ∀ n p left, p < 5 ^ n → evM D A g0 (n + 1) (t * 5 ^ n + p) left = if t < 4 then (if t < dH D ∧ A (6 + g0) = 0 ∧ 0 < left t then (evM D A (g0 + 1) n p (ldn left t)).map (· + pG D A g0 t) else none) else evM D A (g0 + 1) n p left := by
  intro n
  induction n with
  | zero =>
    intro p left hp
    obtain rfl : p = 0 := by
      have : (5 : Nat) ^ 0 = 1 := rfl
      omega
    have e : t * 5 ^ 0 + 0 = t := by rw [Nat.pow_zero]; omega
    rw [e]
    unfold evM
    rw [Nat.mod_eq_of_lt ht, Nat.add_zero]
    rfl
  | succ n ih =>
    intro p left hp
    have e5 : (5 : Nat) ^ (n + 1) = 5 * 5 ^ n := by rw [Nat.pow_succ, Nat.mul_comm]
    have em : (t * 5 ^ (n + 1) + p) % 5 = p % 5 := by
      rw [e5, Nat.mul_left_comm]
      omega
    have ed : (t * 5 ^ (n + 1) + p) / 5 = t * 5 ^ n + p / 5 := by
      rw [e5, Nat.mul_left_comm]
      omega
    have hp5 : p / 5 < 5 ^ n := by
      rw [e5] at hp
      omega
    have l : evM D A g0 (n + 1 + 1) (t * 5 ^ (n + 1) + p) left = if p % 5 < 4 then (if p % 5 < dH D ∧ A (6 + (g0 + (n + 1))) = 0 ∧ 0 < left (p % 5) then (evM D A g0 (n + 1) (t * 5 ^ n + p / 5) (ldn left (p % 5))).map (· + pG D A (g0 + (n + 1)) (p % 5)) else none) else evM D A g0 (n + 1) (t * 5 ^ n + p / 5) left := by
      rw [← em, ← ed]
      rfl
    have r : ∀ left, evM D A (g0 + 1) (n + 1) p left = if p % 5 < 4 then (if p % 5 < dH D ∧ A (6 + (g0 + 1 + n)) = 0 ∧ 0 < left (p % 5) then (evM D A (g0 + 1) n (p / 5) (ldn left (p % 5))).map (· + pG D A (g0 + 1 + n) (p % 5)) else none) else evM D A (g0 + 1) n (p / 5) left := fun _ => rfl
    have eg : g0 + 1 + n = g0 + (n + 1) := by omega
    rw [l, r, r, ih _ _ hp5, ih _ _ hp5, eg]
    generalize hgn : g0 + (n + 1) = gn
    generalize hd : p % 5 = dg
    by_cases a1 : dg < 4
    · rw [if_pos a1, if_pos a1, if_pos a1]
      by_cases b1 : t < 4
      · rw [if_pos b1, if_pos b1]
        by_cases c1 : dg < dH D ∧ A (6 + gn) = 0
        · by_cases c2 : t < dH D ∧ A (6 + g0) = 0
          · by_cases c3 : 0 < left dg ∧ 0 < ldn left dg t
            · have c4 := ldn_two.mp c3
              rw [if_pos ⟨c1.1, c1.2, c3.1⟩, if_pos ⟨c2.1, c2.2, c3.2⟩, if_pos ⟨c2.1, c2.2, c4.1⟩, if_pos ⟨c1.1, c1.2, c4.2⟩, ldn_comm]
              cases evM D A (g0 + 1) n (p / 5) (ldn (ldn left t) dg) with
              | none => rfl
              | some v =>
                show some (v + pG D A g0 t + pG D A gn dg) = some (v + pG D A gn dg + pG D A g0 t)
                congr 1
                omega
            · have c4 : ¬ (0 < left t ∧ 0 < ldn left t dg) := fun z => c3 (ldn_two.mpr z)
              by_cases c5 : 0 < left dg
              · rw [if_pos ⟨c1.1, c1.2, c5⟩, if_neg (fun z => c3 ⟨c5, z.2.2⟩)]
                by_cases c6 : 0 < left t
                · rw [if_pos ⟨c2.1, c2.2, c6⟩, if_neg (fun z => c4 ⟨c6, z.2.2⟩)]; rfl
                · rw [if_neg (fun z => c6 z.2.2)]; rfl
              · rw [if_neg (fun z => c5 z.2.2)]
                by_cases c6 : 0 < left t
                · rw [if_pos ⟨c2.1, c2.2, c6⟩, if_neg (fun z => c4 ⟨c6, z.2.2⟩)]; rfl
                · rw [if_neg (fun z => c6 z.2.2)]
          · rw [if_neg (show ¬ (t < dH D ∧ A (6 + g0) = 0 ∧ 0 < ldn left dg t) from fun z => c2 ⟨z.1, z.2.1⟩), if_neg (show ¬ (t < dH D ∧ A (6 + g0) = 0 ∧ 0 < left t) from fun z => c2 ⟨z.1, z.2.1⟩)]
            split <;> rfl
        · rw [if_neg (show ¬ (dg < dH D ∧ A (6 + gn) = 0 ∧ 0 < left dg) from fun z => c1 ⟨z.1, z.2.1⟩), if_neg (show ¬ (dg < dH D ∧ A (6 + gn) = 0 ∧ 0 < ldn left t dg) from fun z => c1 ⟨z.1, z.2.1⟩)]
          split <;> rfl
      · rw [if_neg b1, if_neg b1]
    · rw [if_neg a1, if_neg a1, if_neg a1]
def lfS (p : Nat) (v : Option Nat) (S : gS) : gS := match v with
  | none => S
  | some v => if S.1 ≤ v then (v + 1, p) else S
theorem gf_vis {D : gD} {A : gA} (hW : gW D) : ∀ r, r ≤ dG D → ∀ c left sum S, gf (fun i S => lfS (c * 5 ^ r + i) ((evM D A (dG D - r) r i left).map (· + sum)) S) (5 ^ r) S = vis D A r c left sum S := by
  intro r
  induction r with
  | zero =>
    intro _ c left sum S
    show lfS (c * 5 ^ 0 + 0) (some (0 + sum)) S = if S.1 ≤ sum then (sum + 1, c) else S
    rw [Nat.zero_add, Nat.pow_zero, Nat.mul_one, Nat.add_zero]
    rfl
  | succ r ih =>
    intro hr c left sum S
    have hH := hW.2.1
    have e5 : (5 : Nat) ^ (r + 1) = 5 * 5 ^ r := by rw [Nat.pow_succ, Nat.mul_comm]
    have eg : dG D - (r + 1) + 1 = dG D - r := by omega
    have hb : ∀ t, t < 5 → ∀ S, gf (fun i z => lfS (c * (5 * 5 ^ r) + (t * 5 ^ r + i)) ((evM D A (dG D - (r + 1)) (r + 1) (t * 5 ^ r + i) left).map (· + sum)) z) (5 ^ r) S = if t < 4 then (if t < dH D ∧ A (6 + (dG D - (r + 1))) = 0 ∧ 0 < left t then vis D A r (5 * c + t) (ldn left t) (sum + pG D A (dG D - (r + 1)) t) S else S) else vis D A r (5 * c + t) left sum S := by
      intro t ht S
      have ec : ∀ i, c * (5 * 5 ^ r) + (t * 5 ^ r + i) = (5 * c + t) * 5 ^ r + i := by
        intro i
        rw [Nat.add_mul, Nat.mul_left_comm, Nat.mul_assoc]
        omega
      by_cases b1 : t < 4
      · rw [if_pos b1]
        by_cases b2 : t < dH D ∧ A (6 + (dG D - (r + 1))) = 0 ∧ 0 < left t
        · rw [if_pos b2, ← ih (by omega)]
          refine gf_congr (fun i z hi => ?_) S
          rw [evM_top ht _ _ _ hi, if_pos b1, if_pos b2, ec, eg]
          congr 1
          cases evM D A (dG D - r) r i (ldn left t) with
          | none => rfl
          | some v =>
            show some (v + pG D A (dG D - (r + 1)) t + sum) = some (v + (sum + pG D A (dG D - (r + 1)) t))
            congr 1
            omega
        · rw [if_neg b2]
          refine gf_id (fun i hi => ?_)
          rw [evM_top ht _ _ _ hi, if_pos b1, if_neg b2]
          rfl
      · rw [if_neg b1, ← ih (by omega)]
        refine gf_congr (fun i z hi => ?_) S
        rw [evM_top ht _ _ _ hi, if_neg b1, ec, eg]
    rw [e5, gf_blk, gf_congr (g := fun t y => if t < 4 then (if t < dH D ∧ A (6 + (dG D - (r + 1))) = 0 ∧ 0 < left t then vis D A r (5 * c + t) (ldn left t) (sum + pG D A (dG D - (r + 1)) t) y else y) else vis D A r (5 * c + t) left sum y) (fun t y ht => hb t ht y)]
    generalize hFF : (fun (t : Nat) (y : gS) => if t < 4 then (if t < dH D ∧ A (6 + (dG D - (r + 1))) = 0 ∧ 0 < left t then vis D A r (5 * c + t) (ldn left t) (sum + pG D A (dG D - (r + 1)) t) y else y) else vis D A r (5 * c + t) left sum y) = F
    have hFe : ∀ t y, F t y = if t < 4 then (if t < dH D ∧ A (6 + (dG D - (r + 1))) = 0 ∧ 0 < left t then vis D A r (5 * c + t) (ldn left t) (sum + pG D A (dG D - (r + 1)) t) y else y) else vis D A r (5 * c + t) left sum y := fun t y => by rw [← hFF]
    show F 4 (gf F 4 S) = vis D A r (5 * c + 4) left sum (gf _ (dH D) S)
    rw [hFe, if_neg (by omega)]
    congr 1
    rw [show 4 = dH D + (4 - dH D) by omega, gf_add, gf_id]
    · refine gf_congr (fun h y hh => ?_) S
      rw [hFe, if_pos (by omega)]
      by_cases q : A (6 + (dG D - (r + 1))) = 0 ∧ 0 < left h
      · rw [if_pos q, if_pos ⟨hh, q.1, q.2⟩]
      · rw [if_neg q, if_neg (fun z => q z.2)]
    · intro i hi
      rw [hFe, if_pos (by omega), if_neg (by omega)]
