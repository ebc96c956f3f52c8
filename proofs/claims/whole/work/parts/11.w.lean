/-! the rules of gn_W -/
def gn_W (d mi pc : Nat) (lo st : List Value) (σ : gn_Mem) (Q : Option Value → gn_Mem → Prop) : Prop := ∃ n, gn_wp n d mi pc lo st σ Q
theorem gw_mono {d mi pc : Nat} {lo st : List Value} {σ : gn_Mem} {Q Q' : Option Value → gn_Mem → Prop} (h : gn_W d mi pc lo st σ Q) (hQ : ∀ r s, Q r s → Q' r s) : gn_W d mi pc lo st σ Q' := by
  obtain ⟨n, h⟩ := h
  exact ⟨n, gn_mono n n _ _ _ _ _ _ _ _ (Nat.le_refl _) hQ h⟩
theorem gw_stp {d mi pc : Nat} {lo st : List Value} {σ : gn_Mem} {Q : Option Value → gn_Mem → Prop} {pc' : Nat} {lo' st' : List Value} {σ' : gn_Mem} (h : gn_stp d mi pc lo st σ = some (pc', lo', st', σ')) (k : gn_W d mi pc' lo' st' σ' Q) : gn_W d mi pc lo st σ Q := by
  obtain ⟨n, k⟩ := k
  refine ⟨n + 1, ?_⟩
  unfold gn_wp
  rw [h]
  exact k
/-- simple steps, until one isn't simple, or the place 'stop' is reached (at most k) -/
noncomputable def gn_run (stop d mi : Nat) (k : Nat) : Nat → List Value → List Value → gn_Mem → Option (Nat × List Value × List Value × gn_Mem) :=
  Nat.rec (fun pc lo st σ => some (pc, lo, st, σ)) (fun _ ih pc lo st σ => match gn_stp d mi pc lo st σ with
    | some (pc', lo', st', σ') => bif Nat.beq pc' stop then some (pc', lo', st', σ') else ih pc' lo' st' σ'
    | none => some (pc, lo, st, σ)) k
theorem gw_run (stop k : Nat) {d mi pc : Nat} {lo st : List Value} {σ : gn_Mem} {Q : Option Value → gn_Mem → Prop} {pc' : Nat} {lo' st' : List Value} {σ' : gn_Mem} (h : gn_run stop d mi k pc lo st σ = some (pc', lo', st', σ')) (kk : gn_W d mi pc' lo' st' σ' Q) : gn_W d mi pc lo st σ Q := by
  induction k generalizing pc lo st σ with
  | zero => cases h; exact kk
  | succ k ih =>
    have e : gn_run stop d mi (k + 1) pc lo st σ = (match gn_stp d mi pc lo st σ with
      | some (pc', lo', st', σ') => bif Nat.beq pc' stop then some (pc', lo', st', σ') else gn_run stop d mi k pc' lo' st' σ'
      | none => some (pc, lo, st, σ)) := rfl
    rw [e] at h
    cases hst : gn_stp d mi pc lo st σ with
    | none => rw [hst] at h; cases h; exact kk
    | some r =>
      obtain ⟨p1, l1, s1, m1⟩ := r
      rw [hst] at h
      dsimp only at h
      refine gw_stp hst ?_
      cases hb : Nat.beq p1 stop with
      | true => rw [hb] at h; cases h; exact kk
      | false => rw [hb] at h; exact ih h
theorem gn_stp_none {d mi pc nx a b : Nat} {v : Int32} {ins : Instr} {lo st : List Value} {σ : gn_Mem} (hcd : gn_cd mi pc = some (ins, nx, a, b, v)) (hi : (match ins with
    | .goto _ => true | .ifCond _ _ => true | .if_icmp _ _ => true | .tableswitch _ _ _ _ => true | .lookupswitch _ _ => true | .idiv => true | .irem => true | .ldiv => true | .lrem => true | .iaload => true | .baload => true | .iastore => true | .bastore => true | .invokevirtual _ => true | .ireturn => true | .areturn => true | .return_ => true | _ => false) = true) : gn_stp d mi pc lo st σ = none := by
  unfold gn_stp
  rw [hcd]
  cases ins <;> first | rfl | cases hi
section
variable {d mi pc nx a b : Nat} {v : Int32} {lo st r : List Value} {σ : gn_Mem} {Q : Option Value → gn_Mem → Prop}
theorem gw_goto {off : Int} (hcd : gn_cd mi pc = some (.goto off, nx, a, b, v)) (k : gn_W d mi a lo st σ Q) : gn_W d mi pc lo st σ Q := by
  obtain ⟨n, k⟩ := k
  refine ⟨n + 1, ?_⟩
  unfold gn_wp
  rw [gn_stp_none hcd rfl, hcd]
  exact k
theorem gw_if {c : ClassFile.Cond} {off : Int} {x : Int32} (hcd : gn_cd mi pc = some (.ifCond c off, nx, a, b, v)) (kt : gn_cmp c x 0 → gn_W d mi a lo r σ Q) (kf : ¬ gn_cmp c x 0 → gn_W d mi nx lo r σ Q) : gn_W d mi pc lo (.int x :: r) σ Q := by
  by_cases h : gn_cmp c x 0
  · obtain ⟨n, k⟩ := kt h
    refine ⟨n + 1, ?_⟩
    unfold gn_wp
    rw [gn_stp_none hcd rfl, hcd]
    exact ⟨fun _ => k, fun q => absurd h q⟩
  · obtain ⟨n, k⟩ := kf h
    refine ⟨n + 1, ?_⟩
    unfold gn_wp
    rw [gn_stp_none hcd rfl, hcd]
    exact ⟨fun q => absurd q h, fun _ => k⟩
theorem gw_icmp {c : ClassFile.Cond} {off : Int} {x y : Int32} (hcd : gn_cd mi pc = some (.if_icmp c off, nx, a, b, v)) (kt : gn_cmp c x y → gn_W d mi a lo r σ Q) (kf : ¬ gn_cmp c x y → gn_W d mi nx lo r σ Q) : gn_W d mi pc lo (.int y :: .int x :: r) σ Q := by
  by_cases h : gn_cmp c x y
  · obtain ⟨n, k⟩ := kt h
    refine ⟨n + 1, ?_⟩
    unfold gn_wp
    rw [gn_stp_none hcd rfl, hcd]
    exact ⟨fun _ => k, fun q => absurd h q⟩
  · obtain ⟨n, k⟩ := kf h
    refine ⟨n + 1, ?_⟩
    unfold gn_wp
    rw [gn_stp_none hcd rfl, hcd]
    exact ⟨fun q => absurd q h, fun _ => k⟩
theorem gw_tsw {p1 p2 p3 : Int} {p4 : Array Int} {x : Int32} (hcd : gn_cd mi pc = some (.tableswitch p1 p2 p3 p4, nx, a, b, v)) (t : Nat) (ht : (pc : Int) + (if x.toInt < p2 ∨ p3 < x.toInt then p1 else p4.getD (x.toInt - p2).toNat 0) = (t : Int)) (k : gn_W d mi t lo r σ Q) : gn_W d mi pc lo (.int x :: r) σ Q := by
  obtain ⟨n, k⟩ := k
  refine ⟨n + 1, ?_⟩
  unfold gn_wp
  rw [gn_stp_none hcd rfl, hcd]
  exact fun u hu => gn_swt_un (ins := .tableswitch p1 p2 p3 p4) (x := x) (pc := pc) ht hu ▸ k
theorem gw_lsw {p1 : Int} {p2 : Array (Int × Int)} {x : Int32} (hcd : gn_cd mi pc = some (.lookupswitch p1 p2, nx, a, b, v)) (t : Nat) (ht : (pc : Int) + Op.lookupswitch.offset p2.toList p1 x.toInt = (t : Int)) (k : gn_W d mi t lo r σ Q) : gn_W d mi pc lo (.int x :: r) σ Q := by
  obtain ⟨n, k⟩ := k
  refine ⟨n + 1, ?_⟩
  unfold gn_wp
  rw [gn_stp_none hcd rfl, hcd]
  exact fun u hu => gn_swt_un (ins := .lookupswitch p1 p2) (x := x) (pc := pc) ht hu ▸ k
theorem gw_idiv {x y : Int32} (hcd : gn_cd mi pc = some (.idiv, nx, a, b, v)) (h : ¬ y = 0) (k : gn_W d mi nx lo (.int (x / y) :: r) σ Q) : gn_W d mi pc lo (.int y :: .int x :: r) σ Q := by
  obtain ⟨n, k⟩ := k
  refine ⟨n + 1, ?_⟩
  unfold gn_wp
  rw [gn_stp_none hcd rfl, hcd]
  exact ⟨h, k⟩
theorem gw_irem {x y : Int32} (hcd : gn_cd mi pc = some (.irem, nx, a, b, v)) (h : ¬ y = 0) (k : gn_W d mi nx lo (.int (x - x / y * y) :: r) σ Q) : gn_W d mi pc lo (.int y :: .int x :: r) σ Q := by
  obtain ⟨n, k⟩ := k
  refine ⟨n + 1, ?_⟩
  unfold gn_wp
  rw [gn_stp_none hcd rfl, hcd]
  exact ⟨h, k⟩
theorem gw_ldiv {x y : Int64} (hcd : gn_cd mi pc = some (.ldiv, nx, a, b, v)) (h : ¬ y = 0) (k : gn_W d mi nx lo (.long (x / y) :: r) σ Q) : gn_W d mi pc lo (.long y :: .long x :: r) σ Q := by
  obtain ⟨n, k⟩ := k
  refine ⟨n + 1, ?_⟩
  unfold gn_wp
  rw [gn_stp_none hcd rfl, hcd]
  exact ⟨h, k⟩
theorem gw_lrem {x y : Int64} (hcd : gn_cd mi pc = some (.lrem, nx, a, b, v)) (h : ¬ y = 0) (k : gn_W d mi nx lo (.long (x - x / y * y) :: r) σ Q) : gn_W d mi pc lo (.long y :: .long x :: r) σ Q := by
  obtain ⟨n, k⟩ := k
  refine ⟨n + 1, ?_⟩
  unfold gn_wp
  rw [gn_stp_none hcd rfl, hcd]
  exact ⟨h, k⟩
theorem gw_iald {o len : Nat} {i : Int32} (hcd : gn_cd mi pc = some (.iaload, nx, a, b, v)) (hl : gn_ly o = .inl (false, len)) (hi : vp_in i len) (k : gn_W d mi nx lo (.int (σ o i.toNatClampNeg) :: r) σ Q) : gn_W d mi pc lo (.int i :: .ref o :: r) σ Q := by
  obtain ⟨n, k⟩ := k
  refine ⟨n + 1, ?_⟩
  unfold gn_wp
  rw [gn_stp_none hcd rfl, hcd]
  dsimp only
  rw [hl]
  exact ⟨hi, k⟩
theorem gw_bald {o len : Nat} {i : Int32} (hcd : gn_cd mi pc = some (.baload, nx, a, b, v)) (hl : gn_ly o = .inl (true, len)) (hi : vp_in i len) (k : gn_W d mi nx lo (.int (σ o i.toNatClampNeg) :: r) σ Q) : gn_W d mi pc lo (.int i :: .ref o :: r) σ Q := by
  obtain ⟨n, k⟩ := k
  refine ⟨n + 1, ?_⟩
  unfold gn_wp
  rw [gn_stp_none hcd rfl, hcd]
  dsimp only
  rw [hl]
  exact ⟨hi, k⟩
theorem gw_iast {o len : Nat} {i x : Int32} (hcd : gn_cd mi pc = some (.iastore, nx, a, b, v)) (hl : gn_ly o = .inl (false, len)) (hi : vp_in i len) (k : gn_W d mi nx lo r (gn_up σ o i.toNatClampNeg x) Q) : gn_W d mi pc lo (.int x :: .int i :: .ref o :: r) σ Q := by
  obtain ⟨n, k⟩ := k
  refine ⟨n + 1, ?_⟩
  unfold gn_wp
  rw [gn_stp_none hcd rfl, hcd]
  dsimp only
  rw [hl]
  exact ⟨hi, k⟩
theorem gw_bast {o len : Nat} {i x : Int32} (hcd : gn_cd mi pc = some (.bastore, nx, a, b, v)) (hl : gn_ly o = .inl (true, len)) (hi : vp_in i len) (k : gn_W d mi nx lo r (gn_up σ o i.toNatClampNeg (vp_nar .boolean x)) Q) : gn_W d mi pc lo (.int x :: .int i :: .ref o :: r) σ Q := by
  obtain ⟨n, k⟩ := k
  refine ⟨n + 1, ?_⟩
  unfold gn_wp
  rw [gn_stp_none hcd rfl, hcd]
  dsimp only
  rw [hl]
  exact ⟨hi, k⟩
theorem gw_putb {o i : Nat} {x : Int32} (hcd : gn_cd mi pc = some (.putfield i, nx, a, b, v)) (h0 : gn_isS 0 o a b = false) (hs : gn_isS 2 o a b = true) (hx : x = 0 ∨ x = 1) (k : gn_W d mi nx lo r (gn_up σ o b x) Q) : gn_W d mi pc lo (.int x :: .ref o :: r) σ Q := by
  obtain ⟨n, k⟩ := k
  refine ⟨n + 1, ?_⟩
  have e : gn_stp d mi pc lo (.int x :: .ref o :: r) σ = none := by
    unfold gn_stp
    rw [hcd]
    dsimp only
    rw [h0]
    rfl
  unfold gn_wp
  rw [e, hcd]
  exact ⟨hs, hx, k⟩
theorem gw_putd {o i t : Nat} {x : Int32} (hcd : gn_cd mi pc = some (.putfield i, nx, a, b, v)) (hs : gn_isS 1 o a b = true) (hx : gn_dyn x = t) (k : gn_W d mi nx lo r (gn_up σ o b x) Q) : gn_W d mi pc lo (.ref t :: .ref o :: r) σ Q := by
  obtain ⟨n, k⟩ := k
  refine ⟨n + 1, ?_⟩
  have e : gn_stp d mi pc lo (.ref t :: .ref o :: r) σ = none := by
    unfold gn_stp
    rw [hcd]
  unfold gn_wp
  rw [e, hcd]
  exact ⟨hs, x, hx, k⟩
/-- the field that is one of the two tables -/
theorem gw_getd {o i t : Nat} (hcd : gn_cd mi pc = some (.getfield i, nx, a, b, v)) (hf : gn_fld σ o a b = some (.ref (gn_dyn (σ o b)))) (ht : gn_dyn (σ o b) = t) (k : gn_W d mi nx lo (.ref t :: r) σ Q) : gn_W d mi pc lo (.ref o :: r) σ Q := by
  refine gw_stp (pc' := nx) (lo' := lo) (st' := .ref t :: r) (σ' := σ) ?_ k
  unfold gn_stp
  rw [hcd]
  dsimp only
  rw [hf, ht]
theorem gw_callv {o i : Nat} {as : List Value} (hcd : gn_cd mi pc = some (.invokevirtual i, nx, a, b, v)) (hp : gn_pop b [] st = some (as, .ref o :: r)) (ho : Nat.blt o gn_NO = true) (hcs : gn_cs r = true) (hcl : gn_nm (gn_oc o) = (gn_y a).cls) (k : gn_W d a 0 (.ref o :: as) [] σ (fun rv σ' => gn_W (d + 1) mi nx lo (rv.toList ++ r) σ' Q)) : gn_W (d + 1) mi pc lo st σ Q := by
  obtain ⟨n, k⟩ := k
  obtain ⟨rv, σ', ⟨n2, k2⟩, k1⟩ := gn_det _ _ _ _ _ _ _ _ k
  refine ⟨max n n2 + 1, ?_⟩
  unfold gn_wp
  rw [gn_stp_none hcd rfl, hcd]
  dsimp only
  rw [hp]
  refine ⟨Nat.le_of_ble_eq_true ho, hcs, hcl, gn_mono n (max n n2) _ _ _ _ _ _ _ _ (Nat.le_max_left _ _) ?_ k1⟩
  intro r2 s2 e
  obtain ⟨rfl, rfl⟩ := e
  exact gn_mono n2 (max n n2) _ _ _ _ _ _ _ _ (Nat.le_max_right _ _) (fun _ _ q => q) k2
theorem gn_stp_st {i : Nat} {d mi pc : Nat} {lo st : List Value} {σ : gn_Mem} (hcd : gn_cd mi pc = some (.invokestatic i, nx, a, b, v)) (h2 : ¬ v = 2) (h3 : ¬ v = 3) : gn_stp d mi pc lo st σ = none := by
  unfold gn_stp
  rw [hcd]
  dsimp only
  cases d with
  | zero => rfl
  | succ d' =>
    dsimp only
    split
    · rw [if_neg h2, if_neg h3]
      rename_i r
      cases gn_cs r <;> rfl
    · rfl
theorem gw_calls {i : Nat} {as : List Value} (hcd : gn_cd mi pc = some (.invokestatic i, nx, a, b, 0)) (hp : gn_pop b [] st = some (as, r)) (hcs : gn_cs r = true) (k : gn_W d a 0 as [] σ (fun rv σ' => gn_W (d + 1) mi nx lo (rv.toList ++ r) σ' Q)) : gn_W (d + 1) mi pc lo st σ Q := by
  obtain ⟨n, k⟩ := k
  obtain ⟨rv, σ', ⟨n2, k2⟩, k1⟩ := gn_det _ _ _ _ _ _ _ _ k
  refine ⟨max n n2 + 1, ?_⟩
  unfold gn_wp
  rw [gn_stp_st hcd (by decide) (by decide), hcd]
  dsimp only
  rw [if_pos rfl, hp]
  refine ⟨hcs, gn_mono n (max n n2) _ _ _ _ _ _ _ _ (Nat.le_max_left _ _) ?_ k1⟩
  intro r2 s2 e
  obtain ⟨rfl, rfl⟩ := e
  exact gn_mono n2 (max n n2) _ _ _ _ _ _ _ _ (Nat.le_max_right _ _) (fun _ _ q => q) k2
theorem gw_copy {i o0 o1 n0 n1 : Nat} {k dp sp : Int32} (hcd : gn_cd mi pc = some (.invokestatic i, nx, a, b, 1)) (h0 : gn_ly o0 = .inl (false, n0)) (h1 : gn_ly o1 = .inl (false, n1)) (hne : Nat.beq o0 o1 = false) (z1 : ¬ sp < 0) (z2 : ¬ dp < 0) (z3 : ¬ k < 0) (z4 : sp.toNatClampNeg + k.toNatClampNeg ≤ n0) (z5 : dp.toNatClampNeg + k.toNatClampNeg ≤ n1) (kk : gn_W (d + 1) mi nx lo [] (gn_upF σ o1 (va_cpy (σ o0) (σ o1) sp.toNatClampNeg dp.toNatClampNeg k.toNatClampNeg)) Q) : gn_W (d + 1) mi pc lo [.int k, .int dp, .ref o1, .int sp, .ref o0] σ Q := by
  obtain ⟨n, kk⟩ := kk
  refine ⟨n + 1, ?_⟩
  unfold gn_wp
  rw [gn_stp_st hcd (by decide) (by decide), hcd]
  dsimp only
  rw [if_neg (by decide), if_pos rfl, h0, h1]
  exact ⟨(fun e => by rw [e, Nat.beq_refl] at hne; cases hne), z1, z2, z3, z4, z5, kk⟩
theorem gw_iret {x : Int32} (hcd : gn_cd mi pc = some (.ireturn, nx, a, b, v)) (ht : (gn_meta.getD mi (⟨"", "", ""⟩, prog_1_method_1_code, 0, none, false, 0, 0)).2.2.2.1 = some .int) (k : Q (some (.int x)) σ) : gn_W d mi pc lo [.int x] σ Q := by
  refine ⟨1, ?_⟩
  unfold gn_wp
  rw [gn_stp_none hcd rfl, hcd]
  exact ⟨Or.inl ht, k⟩
theorem gw_zret {x : Int32} (hcd : gn_cd mi pc = some (.ireturn, nx, a, b, v)) (ht : x = 0 ∨ x = 1) (k : Q (some (.int x)) σ) : gn_W d mi pc lo [.int x] σ Q := by
  refine ⟨1, ?_⟩
  unfold gn_wp
  rw [gn_stp_none hcd rfl, hcd]
  exact ⟨Or.inr ht, k⟩
theorem gw_aret {o : Nat} (hcd : gn_cd mi pc = some (.areturn, nx, a, b, v)) (k : Q (some (.ref o)) σ) : gn_W d mi pc lo [.ref o] σ Q := by
  refine ⟨1, ?_⟩
  unfold gn_wp
  rw [gn_stp_none hcd rfl, hcd]
  exact k
theorem gw_vret (hcd : gn_cd mi pc = some (.return_, nx, a, b, v)) (k : Q none σ) : gn_W d mi pc lo [] σ Q := by
  refine ⟨1, ?_⟩
  unfold gn_wp
  rw [gn_stp_none hcd rfl, hcd]
  exact k
end
