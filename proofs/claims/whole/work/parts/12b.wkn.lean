/-! locals that nobody reads may be forgotten -/
def gn_le (lo lo' : List Value) : Prop := ∀ i, gn_at lo i = gn_at lo' i ∨ (gn_at lo i = .null ∧ gn_isL (gn_at lo' i) = false)
theorem gn_le.set {lo lo' : List Value} (h : gn_le lo lo') (k : Nat) (v : Value) : gn_le (gn_set lo k v) (gn_set lo' k v) := by
  intro i
  rw [gn_at_set, gn_at_set]
  by_cases e : i = k
  · rw [if_pos e, if_pos e]; exact Or.inl rfl
  · rw [if_neg e, if_neg e]; exact h i
theorem gn_le.at {lo lo' : List Value} (h : gn_le lo lo') {i : Nat} {v : Value} (hv : gn_at lo i = v) (hn : v ≠ .null) : gn_at lo' i = v := by
  rcases h i with e | e
  · rw [← e]; exact hv
  · rw [e.1] at hv; exact absurd hv.symm hn
theorem gn_le.ok {lo lo' : List Value} (h : gn_le lo lo') {k : Nat} (hk : gn_okS lo k = true) : gn_okS lo' k = true := by
  cases k with
  | zero => rfl
  | succ k =>
    have hk : (!gn_isL (gn_at lo k)) = true := hk
    show (!gn_isL (gn_at lo' k)) = true
    rcases h k with e | e
    · rw [← e]; exact hk
    · rw [e.2]; rfl
set_option maxHeartbeats 4000000 in
theorem gn_stp_le {d mi pc : Nat} {lo lo' st : List Value} {σ : gn_Mem} (h : gn_le lo lo') {p1 : Nat} {l1 s1 : List Value} {m1 : gn_Mem} (hs : gn_stp d mi pc lo st σ = some (p1, l1, s1, m1)) : ∃ l2, gn_le l1 l2 ∧ gn_stp d mi pc lo' st σ = some (p1, l2, s1, m1) := by
  unfold gn_stp at hs ⊢
  cases hcd : gn_cd mi pc with
  | none => rw [hcd] at hs; cases hs
  | some E =>
    obtain ⟨ins, nx, a, b, v⟩ := E
    rw [hcd] at hs
    dsimp only at hs ⊢
    cases ins
    case aload_n k => 
      dsimp only at hs ⊢
      split at hs
      · rename_i o heq
        cases hs
        exact ⟨lo', h, by rw [h.at heq (fun z => by cases z)]⟩
      · cases hs
    case iload_n k => 
      dsimp only at hs ⊢
      split at hs
      · rename_i o heq
        cases hs
        exact ⟨lo', h, by rw [h.at heq (fun z => by cases z)]⟩
      · cases hs
    case iload k => 
      dsimp only at hs ⊢
      split at hs
      · rename_i o heq
        cases hs
        exact ⟨lo', h, by rw [h.at heq (fun z => by cases z)]⟩
      · cases hs
    case lload_n k => 
      dsimp only at hs ⊢
      split at hs
      · rename_i o heq
        cases hs
        exact ⟨lo', h, by rw [h.at heq (fun z => by cases z)]⟩
      · cases hs
    case iinc k n => 
      dsimp only at hs ⊢
      split at hs
      · rename_i o heq
        rw [h.at heq (fun z => by cases z)]
        dsimp only
        cases ho : gn_okS lo a with
        | false => rw [ho] at hs; cases hs
        | true =>
          rw [ho] at hs
          rw [h.ok ho]
          cases hs
          exact ⟨_, h.set _ _, rfl⟩
      · cases hs
    case istore_n k => 
      dsimp only at hs ⊢
      split at hs
      · cases ho : gn_okS lo a with
        | false => rw [ho] at hs; cases hs
        | true =>
          rw [ho] at hs
          rw [h.ok ho]
          cases hs
          exact ⟨_, h.set _ _, rfl⟩
      · cases hs
    case istore k => 
      dsimp only at hs ⊢
      split at hs
      · cases ho : gn_okS lo a with
        | false => rw [ho] at hs; cases hs
        | true =>
          rw [ho] at hs
          rw [h.ok ho]
          cases hs
          exact ⟨_, h.set _ _, rfl⟩
      · cases hs
    case astore_n k => 
      dsimp only at hs ⊢
      split at hs
      · cases ho : gn_okS lo a with
        | false => rw [ho] at hs; cases hs
        | true =>
          rw [ho] at hs
          rw [h.ok ho]
          cases hs
          exact ⟨_, h.set _ _, rfl⟩
      · cases hs
    case lstore_n k => 
      dsimp only at hs ⊢
      split at hs
      · cases ho : gn_okS lo a with
        | false => rw [ho] at hs; cases hs
        | true =>
          rw [ho] at hs
          rw [h.ok ho]
          cases hs
          exact ⟨_, (h.set _ _).set _ _, rfl⟩
      · cases hs
    case getfield k =>
      dsimp only at hs ⊢
      split at hs
      · rename_i o r
        cases hf : gn_fld σ o a b with
        | none => rw [hf] at hs; cases hs
        | some w => rw [hf] at hs; cases hs; exact ⟨lo', h, rfl⟩
      · cases hs
    case putfield k =>
      dsimp only at hs ⊢
      split at hs
      · rename_i x o r
        cases hf : gn_isS 0 o a b with
        | false => rw [hf] at hs; cases hs
        | true => rw [hf] at hs; cases hs; exact ⟨lo', h, rfl⟩
      · cases hs
    case invokestatic k =>
      cases d with
      | zero => cases hs
      | succ d' =>
        dsimp only at hs ⊢
        split at hs
        · rename_i y x r
          cases hc : gn_cs r with
          | false => rw [hc] at hs; cases hs
          | true =>
            rw [hc] at hs
            dsimp only [cond] at hs ⊢
            by_cases v2 : v = 2
            · rw [if_pos v2] at hs ⊢
              cases hs; exact ⟨lo', h, rfl⟩
            · rw [if_neg v2] at hs ⊢
              by_cases v3 : v = 3
              · rw [if_pos v3] at hs ⊢
                cases hs; exact ⟨lo', h, rfl⟩
              · rw [if_neg v3] at hs; cases hs
        · cases hs
    case dup =>
      dsimp only at hs ⊢
      split at hs
      · rename_i w r
        cases hw : gn_isL w with
        | true => rw [hw] at hs; cases hs
        | false => rw [hw] at hs; cases hs; exact ⟨lo', h, rfl⟩
      · cases hs
    case pop =>
      dsimp only at hs ⊢
      split at hs
      · rename_i w r
        cases hw : gn_isL w with
        | true => rw [hw] at hs; cases hs
        | false => rw [hw] at hs; cases hs; exact ⟨lo', h, rfl⟩
      · cases hs
    case dup2 =>
      dsimp only at hs ⊢
      split at hs
      · rename_i w u r
        cases hw : gn_isL w <;> cases hu : gn_isL u <;> rw [hw, hu] at hs <;> first | (cases hs; done) | (cases hs; exact ⟨lo', h, rfl⟩)
      · cases hs
    all_goals first
      | (cases hs; done)
      | (cases hs; exact ⟨lo', h, rfl⟩)
      | (dsimp only at hs ⊢
         split at hs
         · cases hs; exact ⟨lo', h, rfl⟩
         · cases hs)
set_option maxHeartbeats 4000000 in
theorem gn_wkn : ∀ (n d mi pc : Nat) (lo lo' st : List Value) (σ : gn_Mem) (Q : Option Value → gn_Mem → Prop), gn_le lo lo' → gn_wp n d mi pc lo st σ Q → gn_wp n d mi pc lo' st σ Q := by
  intro n
  induction n with
  | zero => intro d mi pc lo lo' st σ Q _ h; exact h.elim
  | succ n ih =>
    intro d mi pc lo lo' st σ Q hl h
    have go : ∀ {d2 mi2 pc2 : Nat} {st2 : List Value} {σ2 : gn_Mem} {Q2 : Option Value → gn_Mem → Prop}, gn_wp n d2 mi2 pc2 lo st2 σ2 Q2 → gn_wp n d2 mi2 pc2 lo' st2 σ2 Q2 := fun hh => ih _ _ _ _ _ _ _ _ hl hh
    unfold gn_wp at h
    cases hst : gn_stp d mi pc lo st σ with
    | some r =>
      obtain ⟨pc', lo1, st', σ'⟩ := r
      rw [hst] at h
      obtain ⟨l2, h2, h3⟩ := gn_stp_le hl hst
      unfold gn_wp
      rw [h3]
      exact ih _ _ _ _ _ _ _ _ h2 h
    | none =>
      rw [hst] at h
      dsimp only at h
      cases hcd : gn_cd mi pc with
      | none => rw [hcd] at h; exact h.elim
      | some E =>
        obtain ⟨ins, nx, a, b, v⟩ := E
        rw [hcd] at h
        dsimp only at h
        cases ins with
        | goto off => unfold gn_wp; rw [gn_stp_none hcd rfl, hcd]; exact go h
        | ifCond c off =>
          unfold gn_wp; rw [gn_stp_none hcd rfl, hcd]
          dsimp only at h ⊢
          split at h
          · exact ⟨fun q => go (h.1 q), fun q => go (h.2 q)⟩
          · exact h.elim
        | if_icmp c off =>
          unfold gn_wp; rw [gn_stp_none hcd rfl, hcd]
          dsimp only at h ⊢
          split at h
          · exact ⟨fun q => go (h.1 q), fun q => go (h.2 q)⟩
          · exact h.elim
        | tableswitch p1 p2 p3 p4 =>
          unfold gn_wp; rw [gn_stp_none hcd rfl, hcd]
          dsimp only at h ⊢
          split at h
          · exact fun t ht => go (h t ht)
          · exact h.elim
        | lookupswitch p1 p2 =>
          unfold gn_wp; rw [gn_stp_none hcd rfl, hcd]
          dsimp only at h ⊢
          split at h
          · exact fun t ht => go (h t ht)
          · exact h.elim
        | idiv =>
          unfold gn_wp; rw [gn_stp_none hcd rfl, hcd]
          dsimp only at h ⊢
          split at h
          · exact ⟨h.1, go h.2⟩
          · exact h.elim
        | irem =>
          unfold gn_wp; rw [gn_stp_none hcd rfl, hcd]
          dsimp only at h ⊢
          split at h
          · exact ⟨h.1, go h.2⟩
          · exact h.elim
        | ldiv =>
          unfold gn_wp; rw [gn_stp_none hcd rfl, hcd]
          dsimp only at h ⊢
          split at h
          · exact ⟨h.1, go h.2⟩
          · exact h.elim
        | lrem =>
          unfold gn_wp; rw [gn_stp_none hcd rfl, hcd]
          dsimp only at h ⊢
          split at h
          · exact ⟨h.1, go h.2⟩
          · exact h.elim
        | iaload =>
          unfold gn_wp; rw [gn_stp_none hcd rfl, hcd]
          dsimp only at h ⊢
          split at h
          · try dsimp only at h ⊢
            split at h
            · exact ⟨h.1, go h.2⟩
            · exact h.elim
          · exact h.elim
        | baload =>
          unfold gn_wp; rw [gn_stp_none hcd rfl, hcd]
          dsimp only at h ⊢
          split at h
          · try dsimp only at h ⊢
            split at h
            · exact ⟨h.1, go h.2⟩
            · exact h.elim
          · exact h.elim
        | iastore =>
          unfold gn_wp; rw [gn_stp_none hcd rfl, hcd]
          dsimp only at h ⊢
          split at h
          · try dsimp only at h ⊢
            split at h
            · exact ⟨h.1, go h.2⟩
            · exact h.elim
          · exact h.elim
        | bastore =>
          unfold gn_wp; rw [gn_stp_none hcd rfl, hcd]
          dsimp only at h ⊢
          split at h
          · try dsimp only at h ⊢
            split at h
            · exact ⟨h.1, go h.2⟩
            · exact h.elim
          · exact h.elim
        | putfield i =>
          have hno : gn_stp d mi pc lo' st σ = none := by
            unfold gn_stp at hst ⊢
            rw [hcd] at hst ⊢
            dsimp only at hst ⊢
            split at hst
            · rename_i x o r
              cases hf : gn_isS 0 o a b with
              | true => rw [hf] at hst; cases hst
              | false => rfl
            · rfl
          unfold gn_wp; rw [hno, hcd]
          dsimp only at h ⊢
          split at h
          · exact ⟨h.1, h.2.1, go h.2.2⟩
          · obtain ⟨h1, x, h2, h3⟩ := h
            exact ⟨h1, x, h2, go h3⟩
          · exact h.elim
        | invokevirtual i =>
          unfold gn_wp; rw [gn_stp_none hcd rfl, hcd]
          dsimp only at h ⊢
          cases d with
          | zero => exact h.elim
          | succ d' =>
            dsimp only at h ⊢
            split at h
            · exact ⟨h.1, h.2.1, h.2.2.1, gn_mono _ _ _ _ _ _ _ _ _ _ (Nat.le_refl _) (fun r s q => go q) h.2.2.2⟩
            · exact h.elim
        | invokestatic i =>
          cases d with
          | zero => exact h.elim
          | succ d' =>
            have hno : gn_stp (d' + 1) mi pc lo' st σ = none := by
              unfold gn_stp at hst ⊢
              rw [hcd] at hst ⊢
              dsimp only at hst ⊢
              split at hst
              · rename_i y x r
                cases hc : gn_cs r with
                | false => rfl
                | true =>
                  rw [hc] at hst
                  dsimp only [cond] at hst ⊢
                  split at hst
                  · cases hst
                  · split at hst
                    · cases hst
                    · rename_i v2 v3
                      rw [if_neg v2, if_neg v3]
              · rfl
            unfold gn_wp; rw [hno, hcd]
            dsimp only at h ⊢
            by_cases v0 : v = 0
            · rw [if_pos v0] at h ⊢
              split at h
              · exact ⟨h.1, gn_mono _ _ _ _ _ _ _ _ _ _ (Nat.le_refl _) (fun r s q => go q) h.2⟩
              · exact h.elim
            · rw [if_neg v0] at h ⊢
              by_cases v1 : v = 1
              · rw [if_pos v1] at h ⊢
                split at h
                · try dsimp only at h ⊢
                  split at h
                  · obtain ⟨z1, z2, z3, z4, z5, z6, z7⟩ := h
                    exact ⟨z1, z2, z3, z4, z5, z6, go z7⟩
                  · exact h.elim
                · exact h.elim
              · rw [if_neg v1] at h
                exact h.elim
        | ireturn =>
          unfold gn_wp; rw [gn_stp_none hcd rfl, hcd]
          exact h
        | areturn =>
          unfold gn_wp; rw [gn_stp_none hcd rfl, hcd]
          exact h
        | return_ =>
          unfold gn_wp; rw [gn_stp_none hcd rfl, hcd]
          exact h
        | _ => exact h.elim
theorem gn_at_app : ∀ (lo ex : List Value) (i : Nat), gn_at (lo ++ ex) i = if i < lo.length then gn_at lo i else gn_at ex (i - lo.length)
  | [], ex, i => by simp
  | x :: xs, ex, 0 => by simp [gn_at]
  | x :: xs, ex, i + 1 => by
    have h := gn_at_app xs ex i
    simp only [List.cons_append, gn_at, List.length_cons, Nat.add_lt_add_iff_right, Nat.add_sub_add_right]
    exact h
theorem gn_at_ge : ∀ (lo : List Value) (i : Nat), lo.length ≤ i → gn_at lo i = .null
  | [], _, _ => rfl
  | x :: xs, 0, h => by simp at h
  | x :: xs, i + 1, h => gn_at_ge xs i (by simpa using h)
theorem gn_isL_at : ∀ (ex : List Value) (i : Nat), ex.all (fun v => !gn_isL v) = true → gn_isL (gn_at ex i) = false
  | [], _, _ => rfl
  | x :: xs, 0, h => by
    simp only [List.all_cons, Bool.and_eq_true, Bool.not_eq_true'] at h
    exact h.1
  | x :: xs, i + 1, h => by
    simp only [List.all_cons, Bool.and_eq_true] at h
    exact gn_isL_at xs i h.2
/-- the locals behind a place are forgotten -/
theorem gx_drop {d mi pc : Nat} {st : List Value} {σ : gn_Mem} {Q : Option Value → gn_Mem → Prop} (lo ex : List Value) (h : ex.all (fun v => !gn_isL v) = true) (k : gn_W d mi pc lo st σ Q) : gn_W d mi pc (lo ++ ex) st σ Q := by
  obtain ⟨n, k⟩ := k
  refine ⟨n, gn_wkn _ _ _ _ _ _ _ _ _ ?_ k⟩
  intro i
  rw [gn_at_app]
  by_cases hi : i < lo.length
  · rw [if_pos hi]; exact Or.inl rfl
  · rw [if_neg hi]
    exact Or.inr ⟨gn_at_ge lo i (by omega), gn_isL_at ex _ h⟩
/-- a local in the middle is forgotten -/
theorem gx_nul {d mi pc : Nat} {st : List Value} {σ : gn_Mem} {Q : Option Value → gn_Mem → Prop} {lo : List Value} (i : Nat) (h : gn_isL (gn_at lo i) = false) (k : gn_W d mi pc (gn_set lo i .null) st σ Q) : gn_W d mi pc lo st σ Q := by
  obtain ⟨n, k⟩ := k
  refine ⟨n, gn_wkn _ _ _ _ _ _ _ _ _ ?_ k⟩
  intro j
  rw [gn_at_set]
  by_cases e : j = i
  · rw [if_pos e, e]; exact Or.inr ⟨rfl, h⟩
  · rw [if_neg e]; exact Or.inl rfl
