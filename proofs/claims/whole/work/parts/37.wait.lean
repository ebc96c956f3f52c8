/-! what each set of claims comes to -/
def wcnt (s : Nat) : Nat → Nat
  | 0 => 0
  | b + 1 => wcnt s b + (if s.testBit b then 1 else 0)
def wsum (J : Nat → Nat) (U : Nat → Nat) (s : Nat) : Nat → Nat
  | 0 => 0
  | b + 1 => wsum J U s b + (if s.testBit b then max (J b) (U (s - 2 ^ b)) else 0)
def wv (J : Nat → Nat) (n : Nat) : Nat → Nat → Nat
  | 0, _ => 0
  | F + 1, s => wsum J (wv J n F) s n / wcnt s n
def wW (J : Nat → Nat) (n s : Nat) : Nat := wv J n s s
theorem wsum_congr {J U U' : Nat → Nat} {s : Nat} : ∀ {n : Nat}, (∀ b, b < n → s.testBit b = true → U (s - 2 ^ b) = U' (s - 2 ^ b)) → wsum J U s n = wsum J U' s n
  | 0, _ => rfl
  | n + 1, h => by
    show wsum J U s n + _ = wsum J U' s n + _
    rw [wsum_congr (fun b hb => h b (by omega))]
    by_cases q : s.testBit n = true
    · rw [if_pos q, if_pos q, h n (by omega) q]
    · rw [if_neg q, if_neg q]
theorem wtb {s b : Nat} (h : s.testBit b = true) : 2 ^ b ≤ s := Nat.ge_two_pow_of_testBit h
theorem wsum0 {J U : Nat → Nat} : ∀ n, wsum J U 0 n = 0
  | 0 => rfl
  | n + 1 => by
    show wsum J U 0 n + _ = 0
    rw [wsum0 n, Nat.zero_testBit]
    rfl
theorem wv_fuel {J : Nat → Nat} {n : Nat} : ∀ s F, s ≤ F → wv J n F s = wv J n s s := by
  intro s
  induction s using Nat.strongRecOn with
  | ind s ih =>
    intro F hF
    cases s with
    | zero =>
      cases F with
      | zero => rfl
      | succ F =>
        show wsum J (wv J n F) 0 n / wcnt 0 n = 0
        rw [wsum0]
        exact Nat.zero_div _
    | succ s =>
      cases F with
      | zero => omega
      | succ F =>
        show wsum J (wv J n F) (s + 1) n / wcnt (s + 1) n = wsum J (wv J n s) (s + 1) n / wcnt (s + 1) n
        rw [wsum_congr (U := wv J n F) (U' := wv J n s)]
        intro b hb ht
        have h1 := wtb ht
        have h2 : 0 < 2 ^ b := Nat.two_pow_pos b
        rw [ih (s + 1 - 2 ^ b) (by omega) F (by omega), ih (s + 1 - 2 ^ b) (by omega) s (by omega)]
theorem wW_eq {J : Nat → Nat} {n s : Nat} : wW J n s = wsum J (wW J n) s n / wcnt s n := by
  cases s with
  | zero =>
    show 0 = _
    rw [wsum0]
    exact (Nat.zero_div _).symm
  | succ s =>
    show wsum J (wv J n s) (s + 1) n / wcnt (s + 1) n = _
    rw [wsum_congr (U := wv J n s) (U' := wW J n)]
    intro b hb ht
    have h1 := wtb ht
    have h2 : 0 < 2 ^ b := Nat.two_pow_pos b
    exact wv_fuel _ _ (by omega)
theorem wsum_le {J U : Nat → Nat} {s : Nat} {M : Nat} : ∀ {n : Nat}, (∀ b, b < n → J b ≤ M) → (∀ b, b < n → s.testBit b = true → U (s - 2 ^ b) ≤ M) → wsum J U s n ≤ M * wcnt s n
  | 0, _, _ => Nat.zero_le _
  | n + 1, h1, h2 => by
    show wsum J U s n + _ ≤ M * (wcnt s n + _)
    have hi := wsum_le (J := J) (U := U) (s := s) (M := M) (n := n) (fun b hb => h1 b (by omega)) (fun b hb => h2 b (by omega))
    rw [Nat.mul_add]
    by_cases q : s.testBit n = true
    · rw [if_pos q, if_pos q]
      have a := h1 n (by omega)
      have b := h2 n (by omega) q
      omega
    · rw [if_neg q, if_neg q]
      omega
theorem wcnt_le {s : Nat} : ∀ n, wcnt s n ≤ n
  | 0 => Nat.le_refl _
  | n + 1 => by
    have := wcnt_le (s := s) n
    show wcnt s n + _ ≤ n + 1
    by_cases q : s.testBit n = true
    · rw [if_pos q]; omega
    · rw [if_neg q]; omega
theorem wcnt_pos : ∀ {n s : Nat}, 0 < s → s < 2 ^ n → 0 < wcnt s n
  | 0, s, h1, h2 => by have : (2 : Nat) ^ 0 = 1 := rfl; omega
  | n + 1, s, h1, h2 => by
    show 0 < wcnt s n + _
    by_cases q : s.testBit n = true
    · rw [if_pos q]; omega
    · have hs : s < 2 ^ n := by
        rcases Nat.lt_or_ge s (2 ^ n) with z | z
        · exact z
        · exfalso
          apply q
          rw [Nat.testBit_eq_decide_div_mod_eq]
          have e : s / 2 ^ n = 1 := by
            rw [Nat.pow_succ] at h2
            exact Nat.div_eq_of_lt_le (by omega) (by omega)
          rw [e]
          rfl
      have := wcnt_pos h1 hs
      omega
theorem wW_le {J : Nat → Nat} {n M : Nat} (h : ∀ b, b < n → J b ≤ M) : ∀ s, wW J n s ≤ M := by
  intro s
  induction s using Nat.strongRecOn with
  | ind s ih =>
    rw [wW_eq]
    have h1 := wsum_le (J := J) (U := wW J n) (s := s) (M := M) (n := n) h (fun b hb ht => ih _ (by have := wtb ht; have := Nat.two_pow_pos b; omega))
    by_cases q : wcnt s n = 0
    · rw [q, Nat.div_zero]; omega
    · exact Nat.div_le_of_le_mul (by rw [Nat.mul_comm]; exact h1)
/-- claims said already stand at the low places -/
theorem wsum_sh {J U V : Nat → Nat} {s f : Nat} : ∀ n, (∀ b, b < n → s.testBit b = true → V (s * 2 ^ f - 2 ^ (f + b)) = U (s - 2 ^ b)) → wsum J V (s * 2 ^ f) (f + n) = wsum (fun b => J (f + b)) U s n ∧ wcnt (s * 2 ^ f) (f + n) = wcnt s n
  | 0, _ => by
    have hz : ∀ m, m ≤ f → wsum J V (s * 2 ^ f) m = 0 ∧ wcnt (s * 2 ^ f) m = 0 := by
      intro m
      induction m with
      | zero => intro _; exact ⟨rfl, rfl⟩
      | succ m ih =>
        intro hm
        have q : (s * 2 ^ f).testBit m = false := by
          rw [Nat.testBit_mul_two_pow]
          simp
          omega
        obtain ⟨a, b⟩ := ih (by omega)
        constructor
        · show wsum J V (s * 2 ^ f) m + _ = 0
          rw [a, q]; rfl
        · show wcnt (s * 2 ^ f) m + _ = 0
          rw [b, q]; rfl
    exact hz f (Nat.le_refl _)
  | n + 1, h => by
    obtain ⟨a, b⟩ := wsum_sh (J := J) (U := U) (V := V) (s := s) (f := f) n (fun b hb => h b (by omega))
    have q : (s * 2 ^ f).testBit (f + n) = s.testBit n := by
      rw [Nat.testBit_mul_two_pow]
      simp
    constructor
    · show wsum J V (s * 2 ^ f) (f + n) + (if (s * 2 ^ f).testBit (f + n) = true then max (J (f + n)) (V (s * 2 ^ f - 2 ^ (f + n))) else 0) = wsum (fun b => J (f + b)) U s n + (if s.testBit n = true then max (J (f + n)) (U (s - 2 ^ n)) else 0)
      rw [a, q]
      by_cases t : s.testBit n = true
      · rw [if_pos t, if_pos t, h n (by omega) t]
      · rw [if_neg t, if_neg t]
    · show wcnt (s * 2 ^ f) (f + n) + (if (s * 2 ^ f).testBit (f + n) = true then 1 else 0) = wcnt s n + _
      rw [b, q]
theorem wW_sh {J : Nat → Nat} {f n : Nat} : ∀ s, wW J (f + n) (s * 2 ^ f) = wW (fun b => J (f + b)) n s := by
  intro s
  induction s using Nat.strongRecOn with
  | ind s ih =>
    rw [wW_eq, wW_eq (s := s)]
    obtain ⟨a, b⟩ := wsum_sh (J := J) (U := wW (fun b => J (f + b)) n) (V := wW J (f + n)) (s := s) (f := f) n (fun b hb ht => by
      have h1 := wtb ht
      have h2 := Nat.two_pow_pos b
      rw [← ih (s - 2 ^ b) (by omega), Nat.sub_mul, ← Nat.pow_add, Nat.add_comm b f])
    rw [a, b]
theorem w_clr : ∀ s, s < 64 → ∀ b, b < 6 → s.testBit b = true → nI s &&& ((1 <<< (nI b &&& 31)) ^^^ -1) = nI (s - 2 ^ b) := by decide +kernel
theorem w_pow : ∀ n, n ≤ 6 → (1 : Int32) <<< (nI n &&& 31) = nI (2 ^ n) := by decide
theorem w_64 {n : Nat} (h : n ≤ 6) : 2 ^ n ≤ 64 := Nat.le_trans (Nat.pow_le_pow_right (by omega) h) (by decide)
theorem nI_max' {a b : Nat} (ha : a < 2 ^ 31) (hb : b < 2 ^ 31) : (if nI a < nI b then nI b else nI a) = nI (max a b) := nI_max ha hb
section
variable {d : Nat} {σ : gn_Mem} {Q : Option Value → gn_Mem → Prop} {D : gD} {A : gA}
theorem xw_meanOf {n s : Nat} {J U : Nat → Nat} (hn : n ≤ 6) (hs : s < 2 ^ n) (hc : σ 19 3 = nI n) (hJ : ∀ b, b < n → σ 21 b = nI (J b)) (hU : ∀ t, t < s → σ 20 t = nI (U t)) (lJ : ∀ b, b < n → J b ≤ 23000) (lU : ∀ t, U t ≤ 23000) (hQ : Q (some (.int (nI (wsum J U s n / wcnt s n)))) σ) : gn_W (d + 1) 89 0 [.ref 19, .int (nI s)] [] σ Q := by
  have h64 := w_64 hn
  have hws : ∀ i, i ≤ n → wsum J U s i ≤ 23000 * i := fun i hi => Nat.le_trans (wsum_le (M := 23000) (fun b hb => lJ b (by omega)) (fun b _ _ => lU _)) (Nat.mul_le_mul_left _ (wcnt_le i))
  (refine gw_run 7 80 rfl ?_)
  refine gw_for n (fun _ (y : Unit) => y) (fun _ _ => True) (fun i _ => [.ref 19, .int (nI s), .int (nI (wsum J U s i)), .int (nI (wcnt s i)), .int (nI i)]) (fun _ => σ) () trivial (fun _ _ _ _ => trivial) ?_ ?_
  · intro i y hi _ hk
    have e1 : wsum J U s (i + 1) = wsum J U s i + (if s.testBit i then max (J i) (U (s - 2 ^ i)) else 0) := rfl
    have e2 : wcnt s (i + 1) = wcnt s i + (if s.testBit i then 1 else 0) := rfl
    rw [e1, e2] at hk
    (repeat (first | refine gx_run 999 80 rfl ?_ | refine gx_goto rfl rfl ?_))
    rw [hc]
    first | refine gx_iff rfl (nI_ge hi (by omega)) ?_ | refine gx_icf rfl (nI_ge hi (by omega)) ?_
    (repeat (first | refine gx_run 999 80 rfl ?_ | refine gx_goto rfl rfl ?_))
    by_cases t : s.testBit i = true
    · rw [if_pos t, if_pos t] at hk
      have h1 := wtb t
      have h2 := Nat.two_pow_pos i
      have a1 := lJ i hi
      have a2 := lU (s - 2 ^ i)
      first | refine gx_iff rfl (fun q => absurd ((bit_lt (by omega) (by omega)).mp q) (by rw [t]; decide)) ?_ | refine gx_icf rfl (fun q => absurd ((bit_lt (by omega) (by omega)).mp q) (by rw [t]; decide)) ?_
      (repeat (first | refine gx_run 999 80 rfl ?_ | refine gx_goto rfl rfl ?_))
      refine gx_ld i rfl (by omega) (hJ i hi) rfl rfl rfl ?_
      (repeat (first | refine gx_run 999 80 rfl ?_ | refine gx_goto rfl rfl ?_))
      rw [w_clr s (by omega) i (by omega) t]
      refine gx_ld (s - 2 ^ i) rfl (by omega) (hU _ (by omega)) rfl rfl rfl ?_
      (repeat (first | refine gx_run 999 80 rfl ?_ | refine gx_goto rfl rfl ?_))
      rw [nI_max (by omega) (by omega), nI_add]
      refine gw_goto rfl ?_
      rw [nI_1, nI_1]
      exact hk
    · rw [if_neg t, if_neg t] at hk
      first | refine gx_ift rfl ((bit_lt (by omega) (by omega)).mpr (by cases h : s.testBit i <;> simp_all)) ?_ | refine gx_ict rfl ((bit_lt (by omega) (by omega)).mpr (by cases h : s.testBit i <;> simp_all)) ?_
      (repeat (first | refine gx_run 999 80 rfl ?_ | refine gx_goto rfl rfl ?_))
      refine gw_goto rfl ?_
      rw [nI_1]
      exact hk
  · intro _
    have hw := hws n (Nat.le_refl _)
    have hcn := wcnt_le (s := s) n
    (repeat (first | refine gx_run 999 80 rfl ?_ | refine gx_goto rfl rfl ?_))
    rw [hc]
    first | refine gx_ift rfl (nI_le (Nat.le_refl _) (by omega)) ?_ | refine gx_ict rfl (nI_le (Nat.le_refl _) (by omega)) ?_
    (repeat (first | refine gx_run 999 80 rfl ?_ | refine gx_goto rfl rfl ?_))
    by_cases z : wcnt s n = 0
    · rw [z] at hQ ⊢
      first | refine gx_iff rfl (by dsimp only [gn_cmp] <;> decide) ?_ | refine gx_icf rfl (by dsimp only [gn_cmp] <;> decide) ?_
      (repeat (first | refine gx_run 999 80 rfl ?_ | refine gx_goto rfl rfl ?_))
      refine gx_iret rfl rfl ?_
      rw [Nat.div_zero] at hQ
      exact hQ
    · first | refine gx_ift rfl (nI_ne0 (by omega) (by omega)) ?_ | refine gx_ict rfl (nI_ne0 (by omega) (by omega)) ?_
      (repeat (first | refine gx_run 999 80 rfl ?_ | refine gx_goto rfl rfl ?_))
      refine gw_idiv rfl (nI_ne0 (by omega) (by omega)) ?_
      rw [pk_div (by omega) (by omega) (by omega)]
      (repeat (first | refine gx_run 999 80 rfl ?_ | refine gx_goto rfl rfl ?_))
      refine gx_iret rfl rfl ?_
      exact hQ
theorem xw_weigh (hT : gT 28 σ D) {g h f : Nat} (hg : g < dG D) (hh : h < dH D) (hf : f ≤ dC D g) (hQ : ∀ σ' : gn_Mem, (∀ o, ¬ (19 ≤ o ∧ o ≤ 21) → σ' o = σ o) → σ' 19 2 = nI f → σ' 19 3 = nI (dC D g - f) → (∀ b, b < dC D g - f → σ' 21 b = nI (1000 * jP D g h (f + b))) → (∀ t, t < 2 ^ (dC D g - f) → σ' 20 t = nI (wW (fun b => 1000 * jP D g h (f + b)) (dC D g - f) t)) → Q none σ') : gn_W (d + 3) 88 0 [.ref 19, .ref 28, .int (nI g), .int (nI h), .int (nI f)] [] σ Q := by
  have hle := hT.1.1
  have hhe := hT.1.2.1
  have hc := hT.1.2.2.2.2.1 g hg
  generalize hn : dC D g - f = n at *
  have hn6 : n ≤ 6 := by omega
  have h64 := w_64 hn6
  have lJ : ∀ b, b < n → 1000 * jP D g h (f + b) ≤ 23000 := fun b hb => by
    have := hT.1.jP hg hh (k := f + b) (by omega)
    omega
  generalize hJJ : (fun b => 1000 * jP D g h (f + b)) = J at *
  have eJ : ∀ b, J b = 1000 * jP D g h (f + b) := fun b => by rw [← hJJ]
  (repeat (first | refine gx_run 999 80 rfl ?_ | refine gx_goto rfl rfl ?_))
  refine gx_call rfl rfl rfl ?_
  refine xw_claimCount (gT_fr hT (fun o a b => gu_o (by omega))) hg ?_
  (refine gw_run 30 80 rfl ?_)
  rw [pk_sub hf, hn]
  rw [show (if nI n < 6 then nI n else 6) = nI n by
    by_cases q : n = 6
    · rw [q]; rfl
    · rw [if_pos (show nI n < 6 from nI_lt (b := 6) (by omega) (by omega))]]
  rw [mx0 (by omega)]
  generalize hσ : gn_up (gn_up σ 19 2 (nI f)) 19 3 (nI n) = σ1
  have f1 : ∀ o, ¬ (19 ≤ o ∧ o ≤ 21) → σ1 o = σ o := fun o ho => by rw [← hσ, gu_o (by omega), gu_o (by omega)]
  have a1 : σ1 19 2 = nI f := by rw [← hσ, gu_k (by omega), gu_s]
  have a2 : σ1 19 3 = nI n := by rw [← hσ, gu_s]
  refine gw_forP n (fun i (σ' : gn_Mem) => (∀ o, o ≠ 21 → σ' o = σ1 o) ∧ ∀ b, b < i → σ' 21 b = nI (J b)) (fun i _ => [.ref 19, .ref 28, .int (nI g), .int (nI h), .int (nI f), .int (nI i)]) (fun σ' => σ') σ1 ⟨fun _ _ => rfl, fun b hb => by omega⟩ ?_ ?_
  · intro i σ2 hi ⟨p1, p2⟩ hk
    (repeat (first | refine gx_run 999 80 rfl ?_ | refine gx_goto rfl rfl ?_))
    rw [show σ2 19 3 = nI n by rw [p1 19 (by omega)]; exact a2]
    first | refine gx_iff rfl (nI_ge hi (by omega)) ?_ | refine gx_icf rfl (nI_ge hi (by omega)) ?_
    (repeat (first | refine gx_run 999 80 rfl ?_ | refine gx_goto rfl rfl ?_))
    rw [show σ2 19 2 = nI f by rw [p1 19 (by omega)]; exact a1, nI_add]
    refine gx_call rfl rfl rfl ?_
    refine xw_jwna (gT_fr hT (fun o a b => by rw [p1 o (by omega), f1 o (by omega)])) hg hh (by omega) ?_
    rw [if_pos (by omega)]
    (repeat (first | refine gx_run 999 80 rfl ?_ | refine gx_goto rfl rfl ?_))
    rw [show (1000 : Int32) = nI 1000 from rfl, pk_mul]
    refine gx_st i rfl (by omega) rfl rfl rfl ?_
    (repeat (first | refine gx_run 999 80 rfl ?_ | refine gx_goto rfl rfl ?_))
    refine gw_goto rfl ?_
    rw [nI_1, ← eJ]
    refine hk _ ⟨fun o ho => by rw [gu_o ho, p1 o ho], fun b hb => ?_⟩
    by_cases e : b = i
    · rw [e, gu_s]
    · rw [gu_k (Or.inr e)]
      exact p2 b (by omega)
  · intro σ2 ⟨p1, p2⟩
    (repeat (first | refine gx_run 999 80 rfl ?_ | refine gx_goto rfl rfl ?_))
    rw [show σ2 19 3 = nI n by rw [p1 19 (by omega)]; exact a2]
    first | refine gx_ift rfl (nI_le (Nat.le_refl _) (by omega)) ?_ | refine gx_ict rfl (nI_le (Nat.le_refl _) (by omega)) ?_
    (repeat (first | refine gx_run 999 80 rfl ?_ | refine gx_goto rfl rfl ?_))
    refine gx_st 0 rfl (by omega) rfl rfl rfl ?_
    (refine gw_run 79 80 rfl ?_)
    have hp := Nat.two_pow_pos n
    refine gw_forP (2 ^ n - 1) (fun i (σ' : gn_Mem) => (∀ o, o ≠ 20 → σ' o = σ2 o) ∧ ∀ t, t < 1 + i → σ' 20 t = nI (wW J n t)) (fun i _ => [.ref 19, .ref 28, .int (nI g), .int (nI h), .int (nI f), .int (nI (1 + i))]) (fun σ' => σ') (gn_up σ2 20 0 0) ⟨fun o ho => gu_o ho, fun t ht => ?_⟩ ?_ ?_
    · obtain rfl : t = 0 := by omega
      rw [gu_s]; rfl
    · intro i σ3 hi ⟨r1, r2⟩ hk
      have c3 : σ3 19 3 = nI n := by rw [r1 19 (by omega), p1 19 (by omega)]; exact a2
      (repeat (first | refine gx_run 999 80 rfl ?_ | refine gx_goto rfl rfl ?_))
      rw [c3, w_pow n hn6]
      first | refine gx_iff rfl (nI_ge (by omega) (by omega)) ?_ | refine gx_icf rfl (nI_ge (by omega) (by omega)) ?_
      (repeat (first | refine gx_run 999 80 rfl ?_ | refine gx_goto rfl rfl ?_))
      refine gx_call rfl rfl rfl ?_
      refine xw_meanOf (J := J) (U := wW J n) hn6 (by omega) c3 (fun b hb => by rw [r1 21 (by omega)]; exact p2 b hb) (fun t ht => r2 t ht) (fun b hb => by rw [eJ]; exact lJ b hb) (wW_le (fun b hb => by rw [eJ]; exact lJ b hb)) ?_
      rw [← wW_eq]
      (repeat (first | refine gx_run 999 80 rfl ?_ | refine gx_goto rfl rfl ?_))
      refine gx_st (1 + i) rfl (by omega) rfl rfl rfl ?_
      (repeat (first | refine gx_run 999 80 rfl ?_ | refine gx_goto rfl rfl ?_))
      refine gw_goto rfl ?_
      rw [nI_1]
      refine hk _ ⟨fun o ho => by rw [gu_o ho, r1 o ho], fun t ht => ?_⟩
      by_cases e : t = 1 + i
      · rw [e, gu_s]
      · rw [gu_k (Or.inr e)]
        exact r2 t (by omega)
    · intro σ3 ⟨r1, r2⟩
      have c3 : σ3 19 3 = nI n := by rw [r1 19 (by omega), p1 19 (by omega)]; exact a2
      (repeat (first | refine gx_run 999 80 rfl ?_ | refine gx_goto rfl rfl ?_))
      rw [c3, w_pow n hn6]
      first | refine gx_ift rfl (nI_le (by omega) (by omega)) ?_ | refine gx_ict rfl (nI_le (by omega) (by omega)) ?_
      refine gw_vret rfl ?_
      refine hQ σ3 (fun o ho => by rw [r1 o (by omega), p1 o (by omega), f1 o ho]) (by rw [r1 19 (by omega), p1 19 (by omega)]; exact a1) c3 (fun b hb => by rw [r1 21 (by omega), p2 b hb, eJ]) (fun t ht => r2 t (by omega))
theorem mw_layWorth (hM : gM σ D) {g h : Nat} (hg : g < dG D) (hh : h < dH D) (hQ : ∀ σ' : gn_Mem, (∀ o, o ≠ 62 → σ' o = σ o) → (∀ t, t < 2 ^ dC D g → σ' 62 t = nI (wW (fun b => 1000 * jP D g h b) (dC D g) t)) → Q none σ') : gn_W (d + 2) 188 0 [.ref 44, .int (nI g), .int (nI h)] [] σ Q := by
  have hle := hM.1.1
  have hhe := hM.1.2.1
  have hc := hM.1.2.2.2.2.1 g hg
  generalize hn : dC D g = n at *
  have hn6 : n ≤ 6 := by omega
  have h64 := w_64 hn6
  have hp := Nat.two_pow_pos n
  have lJ : ∀ b, b < n → 1000 * jP D g h b ≤ 23000 := fun b hb => by
    have := hM.1.jP hg hh (k := b) (by omega)
    omega
  generalize hJJ : (fun b => 1000 * jP D g h b) = J at *
  have eJ : ∀ b, J b = 1000 * jP D g h b := fun b => by rw [← hJJ]
  have lW := wW_le (J := J) (n := n) (fun b hb => by rw [eJ]; exact lJ b hb)
  (repeat (first | refine gx_run 999 80 rfl ?_ | refine gx_goto rfl rfl ?_))
  refine gx_st 0 rfl (by omega) rfl rfl rfl ?_
  (refine gw_run 9 80 rfl ?_)
  refine gw_forP (2 ^ n - 1) (fun i (σ' : gn_Mem) => (∀ o, o ≠ 62 → σ' o = σ o) ∧ ∀ t, t < 1 + i → σ' 62 t = nI (wW J n t)) (fun i _ => [.ref 44, .int (nI g), .int (nI h), .int (nI (1 + i))]) (fun σ' => σ') (gn_up σ 62 0 0) ⟨fun o ho => gu_o ho, fun t ht => ?_⟩ ?_ ?_
  · obtain rfl : t = 0 := by omega
    rw [gu_s]; rfl
  · intro i σ3 hi ⟨r1, r2⟩ hk
    have hM3 : gM σ3 D := gM_fr hM (fun k _ => by rw [r1 44 (by omega)]) (fun o a b => r1 o (by omega))
    have c3 : σ3 48 g = nI n := by rw [← hn]; exact (hM3.2.2.2.2.2.1 g hg).2
    generalize hs : 1 + i = s at *
    have hws : ∀ j, j ≤ n → wsum J (wW J n) s j ≤ 23000 * j := fun j hj => Nat.le_trans (wsum_le (M := 23000) (fun b hb => by rw [eJ]; exact lJ b (by omega)) (fun b _ _ => lW _)) (Nat.mul_le_mul_left _ (wcnt_le j))
    (repeat (first | refine gx_run 999 80 rfl ?_ | refine gx_goto rfl rfl ?_))
    refine gx_ld g rfl (by omega) c3 rfl rfl rfl ?_
    (repeat (first | refine gx_run 999 80 rfl ?_ | refine gx_goto rfl rfl ?_))
    rw [w_pow n hn6]
    first | refine gx_iff rfl (nI_ge (by omega) (by omega)) ?_ | refine gx_icf rfl (nI_ge (by omega) (by omega)) ?_
    (refine gw_run 30 80 rfl ?_)
    refine gw_for n (fun _ (y : Unit) => y) (fun _ _ => True) (fun j _ => [.ref 44, .int (nI g), .int (nI h), .int (nI s), .int (nI (wsum J (wW J n) s j)), .int (nI (wcnt s j)), .int (nI j)]) (fun _ => σ3) () trivial (fun _ _ _ _ => trivial) ?_ ?_
    · intro j _ hj _ hk3
      have e1 : wsum J (wW J n) s (j + 1) = wsum J (wW J n) s j + (if s.testBit j then max (J j) (wW J n (s - 2 ^ j)) else 0) := rfl
      have e2 : wcnt s (j + 1) = wcnt s j + (if s.testBit j then 1 else 0) := rfl
      rw [e1, e2] at hk3
      (repeat (first | refine gx_run 999 80 rfl ?_ | refine gx_goto rfl rfl ?_))
      refine gx_ld g rfl (by omega) c3 rfl rfl rfl ?_
      first | refine gx_iff rfl (nI_ge hj (by omega)) ?_ | refine gx_icf rfl (nI_ge hj (by omega)) ?_
      (repeat (first | refine gx_run 999 80 rfl ?_ | refine gx_goto rfl rfl ?_))
      refine gw_calls rfl rfl rfl ?_
      refine mw_has (by omega) (by omega) ?_
      (repeat (first | refine gx_run 999 80 rfl ?_ | refine gx_goto rfl rfl ?_))
      by_cases t : s.testBit j = true
      · rw [if_pos t, if_pos t] at hk3
        have h1 := wtb t
        have h2 := Nat.two_pow_pos j
        have b1 : J j ≤ 23000 := by rw [eJ]; exact lJ j hj
        have b2 := lW (s - 2 ^ j)
        rw [gb_t t]
        first | refine gx_iff rfl (by dsimp only [gn_cmp] <;> decide) ?_ | refine gx_icf rfl (by dsimp only [gn_cmp] <;> decide) ?_
        (repeat (first | refine gx_run 999 80 rfl ?_ | refine gx_goto rfl rfl ?_))
        refine gx_call rfl rfl rfl ?_
        refine mw_plainJoy hM3 hg hh (by omega) ?_
        (repeat (first | refine gx_run 999 80 rfl ?_ | refine gx_goto rfl rfl ?_))
        rw [show (1000 : Int32) = nI 1000 from rfl, pk_mul, ← eJ, w_clr s (by omega) j (by omega) t]
        refine gx_ld (s - 2 ^ j) rfl (by omega) (r2 _ (by omega)) rfl rfl rfl ?_
        (repeat (first | refine gx_run 999 80 rfl ?_ | refine gx_goto rfl rfl ?_))
        by_cases q : J j ≤ wW J n (s - 2 ^ j)
        · rw [Nat.max_eq_right q] at hk3
          first | refine gx_ift rfl (nI_le q (by omega)) ?_ | refine gx_ict rfl (nI_le q (by omega)) ?_
          (repeat (first | refine gx_run 999 80 rfl ?_ | refine gx_goto rfl rfl ?_))
          rw [nI_add]
          refine gw_goto rfl ?_
          rw [nI_1, nI_1]
          exact gx_drop [_, _, _, _, _, _, _] [_, _] (by rfl) hk3
        · rw [Nat.max_eq_left (by omega)] at hk3
          first | refine gx_iff rfl (nI_ge (by omega) (by omega)) ?_ | refine gx_icf rfl (nI_ge (by omega) (by omega)) ?_
          (repeat (first | refine gx_run 999 80 rfl ?_ | refine gx_goto rfl rfl ?_))
          rw [nI_add]
          refine gw_goto rfl ?_
          rw [nI_1, nI_1]
          exact gx_drop [_, _, _, _, _, _, _] [_, _] (by rfl) hk3
      · rw [if_neg t, if_neg t] at hk3
        rw [gb_f t]
        first | refine gx_ift rfl (by dsimp only [gn_cmp] <;> decide) ?_ | refine gx_ict rfl (by dsimp only [gn_cmp] <;> decide) ?_
        (repeat (first | refine gx_run 999 80 rfl ?_ | refine gx_goto rfl rfl ?_))
        refine gw_goto rfl ?_
        rw [nI_1]
        exact hk3
    · intro _
      have hw := hws n (Nat.le_refl _)
      have hcn := wcnt_le (s := s) n
      (repeat (first | refine gx_run 999 80 rfl ?_ | refine gx_goto rfl rfl ?_))
      refine gx_ld g rfl (by omega) c3 rfl rfl rfl ?_
      first | refine gx_ift rfl (nI_le (Nat.le_refl _) (by omega)) ?_ | refine gx_ict rfl (nI_le (Nat.le_refl _) (by omega)) ?_
      have hpos : 0 < wcnt s n := wcnt_pos (by omega) (by omega)
      (repeat (first | refine gx_run 999 80 rfl ?_ | refine gx_goto rfl rfl ?_))
      refine gw_idiv rfl (nI_ne0 hpos (by omega)) ?_
      rw [pk_div (by omega) hpos (by omega), ← wW_eq]
      refine gx_st s rfl (by omega) rfl rfl rfl ?_
      (repeat (first | refine gx_run 999 80 rfl ?_ | refine gx_goto rfl rfl ?_))
      refine gw_goto rfl ?_
      rw [nI_1]
      refine gx_drop [_, _, _, _] [_, _, _] (by rfl) ?_
      rw [show s + 1 = 1 + (i + 1) by omega]
      refine hk _ ⟨fun o ho => by rw [gu_o ho, r1 o ho], fun t ht => ?_⟩
      by_cases e : t = s
      · rw [e, gu_s]
      · rw [gu_k (Or.inr e)]
        exact r2 t (by omega)
  · intro σ3 ⟨r1, r2⟩
    have c3 : σ3 48 g = nI n := by rw [r1 48 (by omega), ← hn]; exact (hM.2.2.2.2.2.1 g hg).2
    (repeat (first | refine gx_run 999 80 rfl ?_ | refine gx_goto rfl rfl ?_))
    refine gx_ld g rfl (by omega) c3 rfl rfl rfl ?_
    (repeat (first | refine gx_run 999 80 rfl ?_ | refine gx_goto rfl rfl ?_))
    rw [w_pow n hn6]
    first | refine gx_ift rfl (nI_le (by omega) (by omega)) ?_ | refine gx_ict rfl (nI_le (by omega) (by omega)) ?_
    refine gw_vret rfl ?_
    exact hQ σ3 r1 (fun t ht => r2 t (by omega))
end
