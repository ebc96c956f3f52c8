/-! the pure machine's rules, without fuel -/
set_option maxHeartbeats 4000000 in
theorem gn_mono : ∀ (n N d mi pc : Nat) (lo st : List Value) (σ : gn_Mem) (Q Q' : Option Value → gn_Mem → Prop), n ≤ N → (∀ r s, Q r s → Q' r s) → gn_wp n d mi pc lo st σ Q → gn_wp N d mi pc lo st σ Q' := by
  intro n
  induction n with
  | zero => intro N d mi pc lo st σ Q Q' _ _ h; exact h.elim
  | succ n ih =>
    intro N d mi pc lo st σ Q Q' hN hQ h
    obtain ⟨N, rfl⟩ : ∃ M, N = M + 1 := ⟨N - 1, by omega⟩
    have hN : n ≤ N := by omega
    have go : ∀ {d2 mi2 pc2 : Nat} {lo2 st2 : List Value} {σ2 : gn_Mem}, gn_wp n d2 mi2 pc2 lo2 st2 σ2 Q → gn_wp N d2 mi2 pc2 lo2 st2 σ2 Q' := fun hh => ih N _ _ _ _ _ _ _ _ hN hQ hh
    unfold gn_wp at h ⊢
    cases hst : gn_stp d mi pc lo st σ with
    | some r =>
      obtain ⟨pc', lo', st', σ'⟩ := r
      rw [hst] at h
      exact go h
    | none =>
      rw [hst] at h
      dsimp only at h ⊢
      cases hcd : gn_cd mi pc with
      | none => rw [hcd] at h; exact h.elim
      | some E =>
        obtain ⟨ins, nx, a, b, v⟩ := E
        rw [hcd] at h
        dsimp only at h ⊢
        cases ins with
        | goto off => exact go h
        | ifCond c off =>
          dsimp only at h ⊢
          split at h
          · exact ⟨fun q => go (h.1 q), fun q => go (h.2 q)⟩
          · exact h.elim
        | if_icmp c off =>
          dsimp only at h ⊢
          split at h
          · exact ⟨fun q => go (h.1 q), fun q => go (h.2 q)⟩
          · exact h.elim
        | tableswitch p1 p2 p3 p4 =>
          dsimp only at h ⊢
          split at h
          · exact fun t ht => go (h t ht)
          · exact h.elim
        | lookupswitch p1 p2 =>
          dsimp only at h ⊢
          split at h
          · exact fun t ht => go (h t ht)
          · exact h.elim
        | idiv =>
          dsimp only at h ⊢
          split at h
          · exact ⟨h.1, go h.2⟩
          · exact h.elim
        | irem =>
          dsimp only at h ⊢
          split at h
          · exact ⟨h.1, go h.2⟩
          · exact h.elim
        | ldiv =>
          dsimp only at h ⊢
          split at h
          · exact ⟨h.1, go h.2⟩
          · exact h.elim
        | lrem =>
          dsimp only at h ⊢
          split at h
          · exact ⟨h.1, go h.2⟩
          · exact h.elim
        | iaload =>
          dsimp only at h ⊢
          split at h
          · try dsimp only
            split at h
            · exact ⟨h.1, go h.2⟩
            · exact h.elim
          · exact h.elim
        | baload =>
          dsimp only at h ⊢
          split at h
          · try dsimp only
            split at h
            · exact ⟨h.1, go h.2⟩
            · exact h.elim
          · exact h.elim
        | iastore =>
          dsimp only at h ⊢
          split at h
          · try dsimp only
            split at h
            · exact ⟨h.1, go h.2⟩
            · exact h.elim
          · exact h.elim
        | bastore =>
          dsimp only at h ⊢
          split at h
          · try dsimp only
            split at h
            · exact ⟨h.1, go h.2⟩
            · exact h.elim
          · exact h.elim
        | putfield i =>
          dsimp only at h ⊢
          split at h
          · exact ⟨h.1, h.2.1, go h.2.2⟩
          · obtain ⟨h1, x, h2, h3⟩ := h
            exact ⟨h1, x, h2, go h3⟩
          · exact h.elim
        | invokevirtual i =>
          dsimp only at h ⊢
          cases d with
          | zero => exact h.elim
          | succ d' =>
            dsimp only at h ⊢
            split at h
            · rename_i heq
              try rw [heq]
              exact ⟨h.1, h.2.1, h.2.2.1, ih N _ _ _ _ _ _ _ _ hN (fun r s q => go q) h.2.2.2⟩
            · exact h.elim
        | invokestatic i =>
          dsimp only at h ⊢
          cases d with
          | zero => exact h.elim
          | succ d' =>
            dsimp only at h ⊢
            by_cases v0 : v = 0
            · rw [if_pos v0] at h ⊢
              split at h
              · rename_i heq
                try rw [heq]
                exact ⟨h.1, ih N _ _ _ _ _ _ _ _ hN (fun r s q => go q) h.2⟩
              · exact h.elim
            · rw [if_neg v0] at h ⊢
              by_cases v1 : v = 1
              · rw [if_pos v1] at h ⊢
                split at h
                · try dsimp only
                  split at h
                  · rename_i h1 h2
                    try rw [h1, h2]
                    obtain ⟨z1, z2, z3, z4, z5, z6, z7⟩ := h
                    exact ⟨z1, z2, z3, z4, z5, z6, go z7⟩
                  · exact h.elim
                · exact h.elim
              · rw [if_neg v1] at h
                exact h.elim
        | ireturn =>
          dsimp only at h ⊢
          split at h
          · exact ⟨h.1, hQ _ _ h.2⟩
          · exact h.elim
        | areturn =>
          dsimp only at h ⊢
          split at h
          · exact hQ _ _ h
          · exact h.elim
        | return_ =>
          dsimp only at h ⊢
          split at h
          · exact hQ _ _ h
          · exact h.elim
        | _ => exact h.elim
theorem gn_swt_ex {mi pc nx a b : Nat} {v : Int32} {ins : Instr} (hcd : gn_cd mi pc = some (ins, nx, a, b, v)) (hi : (∃ p1 p2 p3 p4, ins = .tableswitch p1 p2 p3 p4) ∨ ∃ p1 p2, ins = .lookupswitch p1 p2) (x : Int32) : ∃ t, gn_swt pc ins x t := by
  have hok := gn_cd_ok hcd
  unfold gn_okE at hok
  cases hm : gn_meta[mi]? with
  | none => rw [hm] at hok; cases hok
  | some q =>
    obtain ⟨y, bytes, ml, rt, stt, ac, oc⟩ := q
    rw [hm] at hok
    dsimp only at hok
    rw [Bool.and_eq_true] at hok
    obtain ⟨-, hok⟩ := hok
    rcases hi with ⟨dflt, low, hi, offs, rfl⟩ | ⟨dflt, ps, rfl⟩
    · simp only [Bool.and_eq_true, decide_eq_true_eq] at hok
      obtain ⟨⟨k1, k2⟩, k3⟩ := hok
      by_cases ho : x.toInt < low ∨ hi < x.toInt
      · exact ⟨((pc : Int) + dflt).toNat, by unfold gn_swt; dsimp only; rw [if_pos ho]; exact (Int.toNat_of_nonneg k1).symm⟩
      · have hlt : (x.toInt - low).toNat < offs.size := by omega
        have hget : offs[(x.toInt - low).toNat]? = some (offs.getD (x.toInt - low).toNat 0) := by
          simp [Array.getD, hlt]
        have hmem : 0 ≤ (pc : Int) + offs.getD (x.toInt - low).toNat 0 := by
          have h1 := List.all_eq_true.mp k2 (offs.getD (x.toInt - low).toNat 0) (by
            have h2 := Array.mem_of_getElem? hget
            exact Array.mem_toList_iff.mpr h2)
          exact of_decide_eq_true h1
        exact ⟨_, by unfold gn_swt; dsimp only; rw [if_neg ho]; exact (Int.toNat_of_nonneg hmem).symm⟩
    · simp only [Bool.and_eq_true, decide_eq_true_eq] at hok
      obtain ⟨⟨k1, k2⟩, k3⟩ := hok
      have hnn : 0 ≤ (pc : Int) + Op.lookupswitch.offset ps.toList dflt x.toInt := by
        rcases gn_look_mem ps.toList dflt x.toInt with e1 | ⟨q, hq, e1⟩
        · rw [e1]; exact k2
        · rw [e1]; exact of_decide_eq_true (List.all_eq_true.mp k3 q hq)
      exact ⟨_, by unfold gn_swt; dsimp only; exact (Int.toNat_of_nonneg hnn).symm⟩
theorem gn_swt_un {pc : Nat} {ins : Instr} {x : Int32} {t u : Nat} (h1 : gn_swt pc ins x t) (h2 : gn_swt pc ins x u) : t = u := by
  unfold gn_swt at h1 h2
  split at h1 <;> first | exact h1.elim | (dsimp only at h2; rw [h1] at h2; omega)
/-- a run has one outcome -/
def gn_is (rv : Option Value) (σ' : gn_Mem) : Option Value → gn_Mem → Prop := fun r s => r = rv ∧ s = σ'
set_option maxHeartbeats 4000000 in
theorem gn_det : ∀ (n d mi pc : Nat) (lo st : List Value) (σ : gn_Mem) (Q : Option Value → gn_Mem → Prop), gn_wp n d mi pc lo st σ Q → ∃ rv σ', Q rv σ' ∧ gn_wp n d mi pc lo st σ (gn_is rv σ') := by
  intro n
  induction n with
  | zero => intro d mi pc lo st σ Q h; exact h.elim
  | succ n ih =>
    intro d mi pc lo st σ Q h
    unfold gn_wp at h ⊢
    cases hst : gn_stp d mi pc lo st σ with
    | some r =>
      obtain ⟨pc', lo', st', σ'⟩ := r
      rw [hst] at h
      exact ih _ _ _ _ _ _ _ h
    | none =>
      rw [hst] at h
      dsimp only at h ⊢
      cases hcd : gn_cd mi pc with
      | none => rw [hcd] at h; exact h.elim
      | some E =>
        obtain ⟨ins, nx, a, b, v⟩ := E
        rw [hcd] at h
        dsimp only at h ⊢
        cases ins with
        | goto off => exact ih _ _ _ _ _ _ _ h
        | ifCond c off =>
          dsimp only at h ⊢
          split at h
          · rename_i x r
            by_cases hc : gn_cmp c x 0
            · obtain ⟨rv, σ', h1, h2⟩ := ih _ _ _ _ _ _ _ (h.1 hc)
              exact ⟨rv, σ', h1, fun _ => h2, fun q => absurd hc q⟩
            · obtain ⟨rv, σ', h1, h2⟩ := ih _ _ _ _ _ _ _ (h.2 hc)
              exact ⟨rv, σ', h1, fun q => absurd q hc, fun _ => h2⟩
          · exact h.elim
        | if_icmp c off =>
          dsimp only at h ⊢
          split at h
          · rename_i y x r
            by_cases hc : gn_cmp c x y
            · obtain ⟨rv, σ', h1, h2⟩ := ih _ _ _ _ _ _ _ (h.1 hc)
              exact ⟨rv, σ', h1, fun _ => h2, fun q => absurd hc q⟩
            · obtain ⟨rv, σ', h1, h2⟩ := ih _ _ _ _ _ _ _ (h.2 hc)
              exact ⟨rv, σ', h1, fun q => absurd q hc, fun _ => h2⟩
          · exact h.elim
        | tableswitch p1 p2 p3 p4 =>
          dsimp only at h ⊢
          split at h
          · rename_i x r
            obtain ⟨t, ht⟩ := gn_swt_ex hcd (Or.inl ⟨_, _, _, _, rfl⟩) x
            obtain ⟨rv, σ', h1, h2⟩ := ih _ _ _ _ _ _ _ (h t ht)
            exact ⟨rv, σ', h1, fun u hu => gn_swt_un ht hu ▸ h2⟩
          · exact h.elim
        | lookupswitch p1 p2 =>
          dsimp only at h ⊢
          split at h
          · rename_i x r
            obtain ⟨t, ht⟩ := gn_swt_ex hcd (Or.inr ⟨_, _, rfl⟩) x
            obtain ⟨rv, σ', h1, h2⟩ := ih _ _ _ _ _ _ _ (h t ht)
            exact ⟨rv, σ', h1, fun u hu => gn_swt_un ht hu ▸ h2⟩
          · exact h.elim
        | idiv =>
          dsimp only at h ⊢
          split at h
          · obtain ⟨rv, σ', h1, h2⟩ := ih _ _ _ _ _ _ _ h.2
            exact ⟨rv, σ', h1, h.1, h2⟩
          · exact h.elim
        | irem =>
          dsimp only at h ⊢
          split at h
          · obtain ⟨rv, σ', h1, h2⟩ := ih _ _ _ _ _ _ _ h.2
            exact ⟨rv, σ', h1, h.1, h2⟩
          · exact h.elim
        | ldiv =>
          dsimp only at h ⊢
          split at h
          · obtain ⟨rv, σ', h1, h2⟩ := ih _ _ _ _ _ _ _ h.2
            exact ⟨rv, σ', h1, h.1, h2⟩
          · exact h.elim
        | lrem =>
          dsimp only at h ⊢
          split at h
          · obtain ⟨rv, σ', h1, h2⟩ := ih _ _ _ _ _ _ _ h.2
            exact ⟨rv, σ', h1, h.1, h2⟩
          · exact h.elim
        | iaload =>
          dsimp only at h ⊢
          split at h
          · try dsimp only
            split at h
            · rename_i heq; try rw [heq]
              obtain ⟨rv, σ', h1, h2⟩ := ih _ _ _ _ _ _ _ h.2
              exact ⟨rv, σ', h1, h.1, h2⟩
            · exact h.elim
          · exact h.elim
        | baload =>
          dsimp only at h ⊢
          split at h
          · try dsimp only
            split at h
            · rename_i heq; try rw [heq]
              obtain ⟨rv, σ', h1, h2⟩ := ih _ _ _ _ _ _ _ h.2
              exact ⟨rv, σ', h1, h.1, h2⟩
            · exact h.elim
          · exact h.elim
        | iastore =>
          dsimp only at h ⊢
          split at h
          · try dsimp only
            split at h
            · rename_i heq; try rw [heq]
              obtain ⟨rv, σ', h1, h2⟩ := ih _ _ _ _ _ _ _ h.2
              exact ⟨rv, σ', h1, h.1, h2⟩
            · exact h.elim
          · exact h.elim
        | bastore =>
          dsimp only at h ⊢
          split at h
          · try dsimp only
            split at h
            · rename_i heq; try rw [heq]
              obtain ⟨rv, σ', h1, h2⟩ := ih _ _ _ _ _ _ _ h.2
              exact ⟨rv, σ', h1, h.1, h2⟩
            · exact h.elim
          · exact h.elim
        | putfield i =>
          dsimp only at h ⊢
          split at h
          · obtain ⟨rv, σ', h1, h2⟩ := ih _ _ _ _ _ _ _ h.2.2
            exact ⟨rv, σ', h1, h.1, h.2.1, h2⟩
          · obtain ⟨h1, x, h2, h3⟩ := h
            obtain ⟨rv, σ', q1, q2⟩ := ih _ _ _ _ _ _ _ h3
            exact ⟨rv, σ', q1, h1, x, h2, q2⟩
          · exact h.elim
        | invokevirtual i =>
          dsimp only at h ⊢
          cases d with
          | zero => exact h.elim
          | succ d' =>
            dsimp only at h ⊢
            split at h
            · rename_i heq
              try rw [heq]
              obtain ⟨rv, σ', h1, h2⟩ := ih _ _ _ _ _ _ _ h.2.2.2
              obtain ⟨rv2, σ2, q1, q2⟩ := ih _ _ _ _ _ _ _ h1
              exact ⟨rv2, σ2, q1, h.1, h.2.1, h.2.2.1, gn_mono _ _ _ _ _ _ _ _ _ _ (Nat.le_refl _) (fun r s e => by obtain ⟨rfl, rfl⟩ := e; exact q2) h2⟩
            · exact h.elim
        | invokestatic i =>
          dsimp only at h ⊢
          cases d with
          | zero => exact h.elim
          | succ d' =>
            dsimp only at h ⊢
            by_cases v0 : v = 0
            · rw [if_pos v0] at h
              simp only [if_pos v0]
              split at h
              · rename_i heq
                try rw [heq]
                obtain ⟨rv, σ', h1, h2⟩ := ih _ _ _ _ _ _ _ h.2
                obtain ⟨rv2, σ2, q1, q2⟩ := ih _ _ _ _ _ _ _ h1
                exact ⟨rv2, σ2, q1, h.1, gn_mono _ _ _ _ _ _ _ _ _ _ (Nat.le_refl _) (fun r s e => by obtain ⟨rfl, rfl⟩ := e; exact q2) h2⟩
              · exact h.elim
            · rw [if_neg v0] at h
              simp only [if_neg v0]
              by_cases v1 : v = 1
              · rw [if_pos v1] at h
                simp only [if_pos v1]
                split at h
                · try dsimp only
                  split at h
                  · rename_i h1 h2
                    try rw [h1, h2]
                    obtain ⟨z1, z2, z3, z4, z5, z6, z7⟩ := h
                    obtain ⟨rv, σ', q1, q2⟩ := ih _ _ _ _ _ _ _ z7
                    exact ⟨rv, σ', q1, z1, z2, z3, z4, z5, z6, q2⟩
                  · exact h.elim
                · exact h.elim
              · rw [if_neg v1] at h
                exact h.elim
        | ireturn =>
          dsimp only at h ⊢
          split at h
          · exact ⟨_, _, h.2, h.1, rfl, rfl⟩
          · exact h.elim
        | areturn =>
          dsimp only at h ⊢
          split at h
          · exact ⟨_, _, h, rfl, rfl⟩
          · exact h.elim
        | return_ =>
          dsimp only at h ⊢
          split at h
          · exact ⟨_, _, h, rfl, rfl⟩
          · exact h.elim
        | _ => exact h.elim
