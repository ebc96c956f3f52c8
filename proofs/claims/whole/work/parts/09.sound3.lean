/-! soundness of the pure machine, three: calls, branches, returns, the theorem; printed by wip/whole/gen/sound3.py -/
theorem gn_callG {l : Launch} {D : va_G} {cI cZ : ClassId} {ad : Nat → Nat} {A : Nat → Prop} {p : Program} {e : Env} {R : Room} {s : State} {m : MethodId} {args : Array Value} {below : List Frame} {meth : Method} {c : Code} {H H0 : Heap} {locs : List Loc} {pc : Nat} {ls : Array Slot} {st0 rest : List Value} {a : Array Value} {Q : Option Value → gn_Mem → Prop} {Qf : State → Prop} (hr : va_Run p l e R s m args below meth c H locs 0 0 0 0 (F0 m pc ls st0) rest (gn_Qc D cI cZ ad A Q a) A) (hS : va_S A H0 H locs)
    (kk : ∀ (rv : Option Value) (σ' : gn_Mem) (H1 : Heap) (locs1 : List Loc), Q rv σ' → va_P D gn_cls (gn_ws cI cZ ad σ') H1 → va_D A (gn_ws cI cZ ad σ') → va_S A H0 H1 locs1 → W p l e R s m args below meth c H1 locs1 0 0 Qf (F0 m (pc + 3) ls ((rv.map (gn_cz ad)).toList ++ rest))) : W p l e R s m args below meth c H locs 0 0 Qf (F0 m pc ls st0) := by
  intro T hT X
  obtain ⟨v, st₀, t, T', L, h0, X', hL, e1, e2, ⟨⟨rv, σ', hv, hq, hB⟩, hz, hk⟩, st⟩ := hr T hT X
  cases hv
  rw [h0] at hz hk
  obtain ⟨t2, a1, b1⟩ := kk rv σ' T'.heap (locs ++ L) hq (by rw [e1]; exact hB.1) hB.2.2.1
    ⟨Nat.le_trans hS.1 (by rw [e1]; exact hz), fun q h1 h2 => by rw [e1, hk q (Nat.lt_of_lt_of_le h1 hS.1) h2]; exact hS.2.1 q h1 h2, fun q hq => by
      rcases List.mem_append.mp hq with h | h
      · exact hS.2.2 q h
      · exact hL q h⟩ T' rfl X'
  exact ⟨t2, st t2 a1, b1⟩
def gn_S (l : Launch) (D : va_G) (cI cZ : ClassId) (ad : Nat → Nat) (A : Nat → Prop) (n : Nat) : Prop := ∀ (d mi pc : Nat) (lo st : List Value) (σ : gn_Mem) (Q : Option Value → gn_Mem → Prop), gn_wp n d mi pc lo st σ Q → ∀ (p : Program) (e : Env) (s : State) (m : MethodId) (args : Array Value) (below : List Frame) (meth : Method) (c : Code), gn_C D cI cZ mi p s m args meth c → ∀ (H : Heap) (locs : List Loc) (ls : Array Slot), va_P D gn_cls (gn_ws cI cZ ad σ) H → va_D A (gn_ws cI cZ ad σ) → va_S A s.heap H locs → gn_LV ad ls c.maxLocals lo → W p l e (gn_rm d) s m args below meth c H locs 0 0 (MQ below (gn_Qc D cI cZ ad A Q) args s 0 0 A) (F0 m pc ls (st.map (gn_cz ad)))
theorem gn_met {l : Launch} {D : va_G} {cI cZ : ClassId} {ad : Nat → Nat} {A : Nat → Prop} {n d mi : Nat} {y : MethodName} {bytes : ByteArray} {ml : Nat} {rt : Option FieldType} {stt : Bool} {ac oc : Nat} {av : List Value} {σ : gn_Mem} {Q : Option Value → gn_Mem → Prop} (hS : gn_S l D cI cZ ad A n) (hm : gn_meta[mi]? = some (y, bytes, ml, rt, stt, ac, oc)) (h : gn_wp n d mi 0 av [] σ Q) (hav : ∀ v ∈ av, gn_isL v = false) (hlen : av.length ≤ ml) : Met l y (.code y bytes ml rt :: gn_tbl) (gn_rm d) (gn_Pc D cI cZ ad A av σ) (gn_Qc D cI cZ ad A Q) 0 0 A := by
  refine Met.ofW (cc := bytes) (maxL := ml) (ret := rt) (gn_meta_ok _ (List.mem_of_getElem? hm)).1 rfl ?_
  intro p e s m args below meth c s₁ B hml hv
  obtain ⟨rfl, hP, hK, hD, hN⟩ := hv
  have hts := atoms_spec (ws := .code y bytes ml rt :: gn_tbl) B.pre
  have hown : s.vm.findClass y.cls = some m.cls := findClass_of_methodNamed B.named
  rw [lg_entry_eq]
  have hl := lv_entry (av.map (gn_cz ad)) (n := ml) (by rw [gn_sl_len av hav ad]; exact hlen)
  refine hS d mi 0 av [] σ Q h p e s m _ below meth c ⟨B.exec, ⟨y, bytes, ml, rt, stt, ac, oc, hm, B.bytes, hml, hown, B.returns⟩, B.notSynchronized, fun w hw => hts w (List.mem_cons_of_mem _ hw), hK, hN⟩ s.heap [] _ hP hD va_S.rf ?_
  refine ⟨by rw [hml]; exact hl.1, hl.2.1, fun i hi => ?_⟩
  have h1 := gn_args_at av 0 hav ad i hi
  rw [Nat.zero_add] at h1
  exact hl.2.2 _ h1
theorem gn_good_ws {a : Nat} {y : MethodName} {bytes : ByteArray} {ml : Nat} {rt : Option FieldType} {stt : Bool} {ac oc : Nat} (hm : gn_meta[a]? = some (y, bytes, ml, rt, stt, ac, oc)) : GoodIn gn_tbl (.code y bytes ml rt :: gn_tbl) := by
  intro w hw
  rcases List.mem_cons.mp hw with rfl | hw
  · have h1 : Cond.code y bytes ml rt ∈ gn_tbl := gn_tin (gn_code_in _ (List.mem_of_getElem? hm)) rfl
    exact ⟨h1, gn_tbl_good h1⟩
  · exact ⟨hw, gn_tbl_good hw⟩
set_option maxRecDepth 100000 in
theorem gn_meta_ne : ∀ t ∈ gn_meta, t.1.cls ≠ "" ∧ (bif t.2.2.2.2.1 then t.2.2.2.2.2.1 else t.2.2.2.2.2.1 + 1) ≤ t.2.2.1 := by decide +kernel
set_option maxRecDepth 100000 in
theorem gn_cls_n : ∀ q, q < 13 → (gn_cls.getD q ("", gn_T0, 0)).1 = gn_nm q := by decide +kernel
theorem gn_y_of {a : Nat} {y : MethodName} {bytes : ByteArray} {ml : Nat} {rt : Option FieldType} {stt : Bool} {ac oc : Nat} (hm : gn_meta[a]? = some (y, bytes, ml, rt, stt, ac, oc)) : gn_y a = y := by
  simp [gn_y, List.getD, hm]
theorem gn_recv {D : va_G} {cI cZ : ClassId} {ad : Nat → Nat} {o : Nat} {σ : gn_Mem} {s : State} {H : Heap} {C : String} (hK : va_K D gn_cls [(cI, .int), (cZ, .boolean)] s) (hP : va_P D gn_cls (gn_ws cI cZ ad σ) H) (ho : o < gn_NO) (hC : gn_nm (gn_oc o) = C) (hne : C ≠ "") : ∃ cell : Cell, H[ad o]? = some cell ∧ cell.vm.isStatics = false ∧ s.vm.findClass C = some cell.cls := by
  cases hl : gn_ly o with
  | inl x =>
    exfalso
    unfold gn_oc at hC
    rw [hl] at hC
    exact hne hC.symm
  | inr x =>
    obtain ⟨q, fs⟩ := x
    have hq : q < 13 := by
      have h1 := gn_tyOk_all o ho 0 (by decide)
      unfold gn_tyOk at h1
      rw [← gn_ly_lay ho, hl] at h1
      simp only [Bool.and_eq_true] at h1
      exact Nat.le_of_ble_eq_true h1.1.1
    unfold gn_oc at hC
    rw [hl] at hC
    obtain ⟨C2, N, hc, hNe⟩ := gn_cls_at hq
    have e2 : C2 = C := by
      have h2 := gn_cls_n q hq
      simp only [List.getD, hc, Option.getD_some] at h2
      rw [h2]; exact hC
    subst e2
    have he : (gn_ws cI cZ ad σ)[o]? = some (ad o, .inr (q, fs.mapIdx (fun k t => gn_fv ad σ o k t))) := by rw [gn_ws_get ho, gn_ce_obj hl]
    exact va_recv hK hP hc he
set_option maxRecDepth 100000 in
theorem gn_acs : Cond.static arraycopyName ∈ lw_tbl := List.mem_of_getElem? (i := 717) (by decide +kernel)
set_option maxRecDepth 100000 in
theorem gn_acn : Cond.native arraycopyName ∈ lw_tbl := List.mem_of_getElem? (i := 718) (by decide +kernel)
set_option maxRecDepth 100000 in
theorem gn_sysi : Cond.initialized "java/lang/System" ∈ lw_tbl := List.mem_of_getElem? (i := 145) (by decide +kernel)
theorem gn_look_mem : ∀ (ps : List (Int × Int)) (dflt x : Int), Op.lookupswitch.offset ps dflt x = dflt ∨ ∃ q ∈ ps, Op.lookupswitch.offset ps dflt x = q.2
  | [], dflt, x => Or.inl rfl
  | (a, o) :: r, dflt, x => by
    by_cases h : a = x
    · exact Or.inr ⟨(a, o), List.mem_cons_self, by simp [Op.lookupswitch.offset, h]⟩
    · have e : Op.lookupswitch.offset ((a, o) :: r) dflt x = Op.lookupswitch.offset r dflt x := by simp [Op.lookupswitch.offset, h]
      rw [e]
      rcases gn_look_mem r dflt x with h1 | ⟨q, hq, h1⟩
      · exact Or.inl h1
      · exact Or.inr ⟨q, List.mem_cons_of_mem _ hq, h1⟩
set_option maxHeartbeats 8000000 in
set_option maxRecDepth 100000 in
theorem gn_sound (l : Launch) (D : va_G) (cI cZ : ClassId) (ad : Nat → Nat) (A : Nat → Prop) : ∀ n, gn_S l D cI cZ ad A n := by
  intro n
  induction n with
  | zero => intro d mi pc lo st σ Q h; exact h.elim
  | succ n ih =>
    intro d mi pc lo st σ Q h p e s m args below meth c hC H locs ls hP hD hS hl
    unfold gn_wp at h
    cases hst : gn_stp d mi pc lo st σ with
    | some r =>
      obtain ⟨pc', lo', st', σ'⟩ := r
      rw [hst] at h
      exact gn_stp_sound hC hst hP hD hS hl (fun H1 locs1 ls1 p1 p2 p3 p4 => ih _ _ _ _ _ _ _ h p e s m args below meth c hC H1 locs1 ls1 p1 p2 p3 p4)
    | none =>
      rw [hst] at h
      dsimp only at h
      cases hcd : gn_cd mi pc with
      | none => rw [hcd] at h; exact h.elim
      | some E =>
        have hC0 := hC
        obtain ⟨hx, ⟨y, bytes, ml, rt, stt, ac, oc, hm, hb, hml, hown, hr⟩, hlk, hts, hK, hN⟩ := hC
        have hoc : y.cls = gn_nm oc := (gn_meta_ok _ (List.mem_of_getElem? hm)).2.2.2.2.2
        obtain ⟨ins, nx, a, b, v⟩ := E
        rw [hcd] at h
        dsimp only at h
        have hok := gn_cd_ok hcd
        simp only [gn_okE, hm] at hok
        rw [Bool.and_eq_true] at hok
        obtain ⟨hde, hok⟩ := hok
        have hde := of_decide_eq_true hde
        have go : ∀ {pc2 : Nat} {st2 : List Value}, gn_wp n d mi pc2 lo st2 σ Q → W p l e (gn_rm d) s m args below meth c H locs 0 0 (MQ below (gn_Qc D cI cZ ad A Q) args s 0 0 A) (F0 m pc2 ls (st2.map (gn_cz ad))) := fun hh => ih _ _ _ _ _ _ _ hh p e s m args below meth c hC0 H locs ls hP hD hS hl
        cases ins with
        | goto off =>
          simp only [Bool.and_eq_true] at hok
          obtain ⟨h0, h1⟩ := hok
          have hnx := Nat.eq_of_beq_eq_true h0
          subst hnx
          rw [Nat.add_sub_cancel_left] at hde
          exact lv_goto hx hb hde (of_decide_eq_true h1) (go h)
        | ifCond cnd off =>
          simp only [Bool.and_eq_true] at hok
          obtain ⟨h0, h1⟩ := hok
          have hnx := Nat.eq_of_beq_eq_true h0
          subst hnx
          rw [Nat.add_sub_cancel_left] at hde
          have h1 := of_decide_eq_true h1
          dsimp only at h
          split at h
          · rename_i x r
            cases cnd with
            | eq => exact lv_if_eq hx hb hde h1 (fun q => go (h.1 q)) (fun q => go (h.2 q))
            | ne => exact lv_if_ne hx hb hde h1 (fun q => go (h.1 q)) (fun q => go (h.2 (fun z => z q)))
            | lt => exact lv_if_lt hx hb hde h1 (fun q => go (h.1 q)) (fun q => go (h.2 q))
            | ge => exact lv_if_ge hx hb hde h1 (fun q => go (h.1 q)) (fun q => go (h.2 q))
            | gt => exact lv_if_gt hx hb hde h1 (fun q => go (h.1 q)) (fun q => go (h.2 q))
            | le => exact lv_if_le hx hb hde h1 (fun q => go (h.1 q)) (fun q => go (h.2 q))
          · exact h.elim
        | if_icmp cnd off =>
          simp only [Bool.and_eq_true] at hok
          obtain ⟨h0, h1⟩ := hok
          have hnx := Nat.eq_of_beq_eq_true h0
          subst hnx
          rw [Nat.add_sub_cancel_left] at hde
          have h1 := of_decide_eq_true h1
          dsimp only at h
          split at h
          · rename_i y2 x r
            cases cnd with
            | eq => exact lv_icmp_eq hx hb hde h1 (fun q => go (h.1 q)) (fun q => go (h.2 q))
            | ne => exact lv_icmp_ne hx hb hde h1 (fun q => go (h.1 q)) (fun q => go (h.2 (fun z => z q)))
            | lt => exact lv_icmp_lt hx hb hde h1 (fun q => go (h.1 q)) (fun q => go (h.2 q))
            | ge => exact lv_icmp_ge hx hb hde h1 (fun q => go (h.1 q)) (fun q => go (h.2 q))
            | gt => exact lv_icmp_gt hx hb hde h1 (fun q => go (h.1 q)) (fun q => go (h.2 q))
            | le => exact lv_icmp_le hx hb hde h1 (fun q => go (h.1 q)) (fun q => go (h.2 q))
          · exact h.elim
        | tableswitch dflt low hi offs =>
          simp only [Bool.and_eq_true, decide_eq_true_eq] at hok
          obtain ⟨⟨k1, k2⟩, k3⟩ := hok
          dsimp only at h
          split at h
          · rename_i x r
            by_cases ho : x.toInt < low ∨ hi < x.toInt
            · have ht : (pc : Int) + dflt = ((((pc : Int) + dflt).toNat : Nat) : Int) := (Int.toNat_of_nonneg k1).symm
              exact lv_tableOut hx hb hde ho ht (go (h _ (by unfold gn_swt; dsimp only; rw [if_pos ho]; exact ht)))
            · have hlt : (x.toInt - low).toNat < offs.size := by omega
              have hget : offs[(x.toInt - low).toNat]? = some (offs.getD (x.toInt - low).toNat 0) := by
                simp [Array.getD, hlt]
              have hmem : 0 ≤ (pc : Int) + offs.getD (x.toInt - low).toNat 0 := by
                have h1 := List.all_eq_true.mp k2 (offs.getD (x.toInt - low).toNat 0) (by
                  have h2 := Array.mem_of_getElem? hget
                  exact Array.mem_toList_iff.mpr h2)
                exact of_decide_eq_true h1
              have ht := (Int.toNat_of_nonneg hmem).symm
              exact lv_tableIn hx hb hde (fun z => ho (Or.inl z)) (fun z => ho (Or.inr z)) hget ht (go (h _ (by unfold gn_swt; dsimp only; rw [if_neg ho]; exact ht)))
          · exact h.elim
        | lookupswitch dflt ps =>
          simp only [Bool.and_eq_true, decide_eq_true_eq] at hok
          obtain ⟨⟨k1, k2⟩, k3⟩ := hok
          dsimp only at h
          split at h
          · rename_i x r
            have hnn : 0 ≤ (pc : Int) + Op.lookupswitch.offset ps.toList dflt x.toInt := by
              rcases gn_look_mem ps.toList dflt x.toInt with e1 | ⟨q, hq, e1⟩
              · rw [e1]; exact k2
              · rw [e1]; exact of_decide_eq_true (List.all_eq_true.mp k3 q hq)
            have ht := (Int.toNat_of_nonneg hnn).symm
            exact lv_lookup hx hb hde (by simpa using k1) rfl ht (go (h _ (by unfold gn_swt; exact ht)))
          · exact h.elim
        | idiv =>
          have hnx := Nat.eq_of_beq_eq_true hok
          subst hnx
          rw [Nat.add_sub_cancel_left] at hde
          dsimp only at h
          split at h
          · exact lv_idiv hx hb hde h.1 (go h.2)
          · exact h.elim
        | irem =>
          have hnx := Nat.eq_of_beq_eq_true hok
          subst hnx
          rw [Nat.add_sub_cancel_left] at hde
          dsimp only at h
          split at h
          · exact lv_irem hx hb hde h.1 (go h.2)
          · exact h.elim
        | ldiv =>
          have hnx := Nat.eq_of_beq_eq_true hok
          subst hnx
          rw [Nat.add_sub_cancel_left] at hde
          dsimp only at h
          split at h
          · exact lv_ldiv hx hb hde h.1 (go h.2)
          · exact h.elim
        | lrem =>
          have hnx := Nat.eq_of_beq_eq_true hok
          subst hnx
          rw [Nat.add_sub_cancel_left] at hde
          dsimp only at h
          split at h
          · exact lv_lrem hx hb hde h.1 (go h.2)
          · exact h.elim
        | iaload =>
          have hnx := Nat.eq_of_beq_eq_true hok
          subst hnx
          rw [Nat.add_sub_cancel_left] at hde
          dsimp only at h
          split at h
          · rename_i i o r
            split at h
            · rename_i len heq
              have ho := gn_ly_lt heq
              have ha : (gn_ws cI cZ ad σ)[o]? = some (ad o, .inl (cI, len, .inl (σ o))) := by rw [gn_ws_get ho, gn_ce_arr heq]; rfl
              exact va_iald hx hb hK hP o 0 ha rfl h.1 hde (go h.2)
            · exact h.elim
          · exact h.elim
        | baload =>
          have hnx := Nat.eq_of_beq_eq_true hok
          subst hnx
          rw [Nat.add_sub_cancel_left] at hde
          dsimp only at h
          split at h
          · rename_i i o r
            split at h
            · rename_i len heq
              have ho := gn_ly_lt heq
              have ha : (gn_ws cI cZ ad σ)[o]? = some (ad o, .inl (cZ, len, .inl (σ o))) := by rw [gn_ws_get ho, gn_ce_arr heq]; rfl
              exact va_zald hx hb hK hP o 1 ha rfl h.1 hde (go h.2)
            · exact h.elim
          · exact h.elim
        | iastore =>
          have hnx := Nat.eq_of_beq_eq_true hok
          subst hnx
          rw [Nat.add_sub_cancel_left] at hde
          dsimp only at h
          split at h
          · rename_i x i o r
            split at h
            · rename_i len heq
              have ho := gn_ly_lt heq
              have ha : (gn_ws cI cZ ad σ)[o]? = some (ad o, .inl (cI, len, .inl (σ o))) := by rw [gn_ws_get ho, gn_ce_arr heq]; rfl
              have hset : (gn_ws cI cZ ad σ).set o (ad o, .inl (cI, len, .inl (upd (σ o) i.toNatClampNeg x))) = gn_ws cI cZ ad (gn_up σ o i.toNatClampNeg x) := gn_ws_set ho (by rw [gn_ce_arr heq, gn_up_eq]; rfl) (fun o' h' => gn_ce_ne (gn_up_ne h'))
              exact va_iast hx hb hK hP hD hS o 0 ha rfl h.1 hde (fun H1 locs1 p1 p2 p3 => ih _ _ _ _ _ _ _ h.2 p e s m args below meth c hC0 H1 locs1 ls (hset ▸ p1) (hset ▸ p2) p3 hl)
            · exact h.elim
          · exact h.elim
        | bastore =>
          have hnx := Nat.eq_of_beq_eq_true hok
          subst hnx
          rw [Nat.add_sub_cancel_left] at hde
          dsimp only at h
          split at h
          · rename_i x i o r
            split at h
            · rename_i len heq
              have ho := gn_ly_lt heq
              have ha : (gn_ws cI cZ ad σ)[o]? = some (ad o, .inl (cZ, len, .inl (σ o))) := by rw [gn_ws_get ho, gn_ce_arr heq]; rfl
              have hset : (gn_ws cI cZ ad σ).set o (ad o, .inl (cZ, len, .inl (upd (σ o) i.toNatClampNeg (vp_nar .boolean x)))) = gn_ws cI cZ ad (gn_up σ o i.toNatClampNeg (vp_nar .boolean x)) := gn_ws_set ho (by rw [gn_ce_arr heq, gn_up_eq]; rfl) (fun o' h' => gn_ce_ne (gn_up_ne h'))
              exact va_zast hx hb hK hP hD hS o 1 ha rfl h.1 hde (fun H1 locs1 p1 p2 p3 => ih _ _ _ _ _ _ _ h.2 p e s m args below meth c hC0 H1 locs1 ls (hset ▸ p1) (hset ▸ p2) p3 hl)
            · exact h.elim
          · exact h.elim
        | putfield i =>
          simp only [Bool.and_eq_true] at hok
          obtain ⟨⟨⟨⟨h0, h1⟩, h2⟩, h3⟩, h4⟩ := hok
          have hnx := Nat.eq_of_beq_eq_true h0
          subst hnx
          rw [Nat.add_sub_cancel_left] at hde
          dsimp only at h
          split at h
          · rename_i x o r
            obtain ⟨hf, hx01, hwp⟩ := h
            have hnar : narrow .boolean (.int x) = .int x := by rcases hx01 with rfl | rfl <;> rfl
            have hfit : fits .boolean (.int x) = true := by rcases hx01 with rfl | rfl <;> rfl
            have h2 : a < 13 := Nat.le_of_ble_eq_true h2
            have h3 : b < (gn_cls.getD a ("", gn_T0, 0)).2.2 := Nat.le_of_ble_eq_true h3
            have h4 : (gn_Tf a b).2.2.2 = false := by simpa using h4
            obtain ⟨C, N, hc, hNe⟩ := gn_cls_at h2
            rw [← hNe] at h3
            obtain ⟨fs, g1, g2⟩ := gn_isS_spec hf
            have ho := gn_ly_lt' g1 (by omega)
            have he : (gn_ws cI cZ ad σ)[o]? = some (ad o, .inr (a, fs.mapIdx (fun k t => gn_fv ad σ o k t))) := by rw [gn_ws_get ho, gn_ce_obj g1]
            have hlen : b < (fs.mapIdx (fun k t => gn_fv ad σ o k t)).length := by rw [List.length_mapIdx]; exact (List.getElem?_eq_some_iff.mp g2).1
            have hty := (gn_ty_of g1 h2 g2).2.2 rfl
            have hd := gn_cls_ok a h2 _ _ _ hc b h3
            rw [hty] at hd
            have hset : (gn_ws cI cZ ad σ).set o (ad o, .inr (a, (fs.mapIdx (fun k t => gn_fv ad σ o k t)).set b (.int x))) = gn_ws cI cZ ad (gn_up σ o b x) := gn_ws_set ho (by rw [gn_ce_put g1 g2]; simp [gn_fv, gn_up_eq, upd]) (fun o' h' => gn_ce_ne (gn_up_ne h'))
            rw [hoc] at hown
            rw [Bool.or_eq_true] at h1
            rcases h1 with h1 | h1
            · have hlink := hts _ (gn_tin (gn_fw_in _ (of_decide_eq_true h1)) rfl)
              exact va_put (D := D) (v := .int x) hx hb hts (gn_lays_of hc) _ (gn_cls_ok a h2 _ _ _ hc) (gn_cls_nm a h2 _ _ _ hc) hown hK hP hD hS o he hc b h3 hlink (fun _ z => z) h4 hd hnar hfit hlen hde (fun H1 locs1 p1 p2 p3 => ih _ _ _ _ _ _ _ hwp p e s m args below meth c hC0 H1 locs1 ls (hset ▸ p1) (hset ▸ p2) p3 hl)
            · have hlink := va_Nw.use (A := args) rfl (hN _ (List.mem_filter.mpr ⟨gn_fw_in _ (of_decide_eq_true h1), rfl⟩))
              exact va_putN (D := D) (v := .int x) hx hb hts (gn_lays_of hc) _ (gn_cls_ok a h2 _ _ _ hc) (gn_cls_nm a h2 _ _ _ hc) hown hK hP hD hS o he hc b h3 hlink (fun _ z => z) h4 hd hnar hfit hlen hde (fun H1 locs1 p1 p2 p3 => ih _ _ _ _ _ _ _ hwp p e s m args below meth c hC0 H1 locs1 ls (hset ▸ p1) (hset ▸ p2) p3 hl)
          · rename_i t o r
            obtain ⟨hf, x, hdy, hwp⟩ := h
            subst hdy
            have hnar : narrow (.object "GuestNoes$Table") (.ref (ad (gn_dyn x))) = .ref (ad (gn_dyn x)) := rfl
            have hfit : fits (.object "GuestNoes$Table") (.ref (ad (gn_dyn x))) = true := rfl
            have h2 : a < 13 := Nat.le_of_ble_eq_true h2
            have h3 : b < (gn_cls.getD a ("", gn_T0, 0)).2.2 := Nat.le_of_ble_eq_true h3
            have h4 : (gn_Tf a b).2.2.2 = false := by simpa using h4
            obtain ⟨C, N, hc, hNe⟩ := gn_cls_at h2
            rw [← hNe] at h3
            obtain ⟨fs, g1, g2⟩ := gn_isS_spec hf
            have ho := gn_ly_lt' g1 (by omega)
            have he : (gn_ws cI cZ ad σ)[o]? = some (ad o, .inr (a, fs.mapIdx (fun k t => gn_fv ad σ o k t))) := by rw [gn_ws_get ho, gn_ce_obj g1]
            have hlen : b < (fs.mapIdx (fun k t => gn_fv ad σ o k t)).length := by rw [List.length_mapIdx]; exact (List.getElem?_eq_some_iff.mp g2).1
            have hty := (gn_ty_of g1 h2 g2).2.1 rfl
            have hd := gn_cls_ok a h2 _ _ _ hc b h3
            rw [hty] at hd
            have hset : (gn_ws cI cZ ad σ).set o (ad o, .inr (a, (fs.mapIdx (fun k t => gn_fv ad σ o k t)).set b (.ref (ad (gn_dyn x))))) = gn_ws cI cZ ad (gn_up σ o b x) := gn_ws_set ho (by rw [gn_ce_put g1 g2]; simp [gn_fv, gn_up_eq, upd]) (fun o' h' => gn_ce_ne (gn_up_ne h'))
            rw [hoc] at hown
            rw [Bool.or_eq_true] at h1
            rcases h1 with h1 | h1
            · have hlink := hts _ (gn_tin (gn_fw_in _ (of_decide_eq_true h1)) rfl)
              exact va_put (D := D) (v := .ref (ad (gn_dyn x))) hx hb hts (gn_lays_of hc) _ (gn_cls_ok a h2 _ _ _ hc) (gn_cls_nm a h2 _ _ _ hc) hown hK hP hD hS o he hc b h3 hlink (fun _ z => z) h4 hd hnar hfit hlen hde (fun H1 locs1 p1 p2 p3 => ih _ _ _ _ _ _ _ hwp p e s m args below meth c hC0 H1 locs1 ls (hset ▸ p1) (hset ▸ p2) p3 hl)
            · have hlink := va_Nw.use (A := args) rfl (hN _ (List.mem_filter.mpr ⟨gn_fw_in _ (of_decide_eq_true h1), rfl⟩))
              exact va_putN (D := D) (v := .ref (ad (gn_dyn x))) hx hb hts (gn_lays_of hc) _ (gn_cls_ok a h2 _ _ _ hc) (gn_cls_nm a h2 _ _ _ hc) hown hK hP hD hS o he hc b h3 hlink (fun _ z => z) h4 hd hnar hfit hlen hde (fun H1 locs1 p1 p2 p3 => ih _ _ _ _ _ _ _ hwp p e s m args below meth c hC0 H1 locs1 ls (hset ▸ p1) (hset ▸ p2) p3 hl)
          · exact h.elim
        | invokevirtual i =>
          simp only [Bool.and_eq_true] at hok
          obtain ⟨⟨h0, h1⟩, h2⟩ := hok
          have hnx := Nat.eq_of_beq_eq_true h0
          subst hnx
          rw [Nat.add_sub_cancel_left] at hde
          cases hma : gn_meta[a]? with
          | none => rw [hma] at h2; cases h2
          | some t =>
            obtain ⟨y2, by2, ml2, rt2, st2, ac2, oc2⟩ := t
            rw [hma] at h2
            simp only [Bool.and_eq_true, Bool.not_eq_true'] at h2
            obtain ⟨hst2, hac⟩ := h2
            have hac := Nat.eq_of_beq_eq_true hac
            subst hac
            subst hst2
            have hmem := List.mem_of_getElem? hma
            have hmok := gn_meta_ok _ hmem
            have hmne := gn_meta_ne _ hmem
            have hye := gn_y_of hma
            have hflt : (y2, by2, ml2, rt2, false, ac2, oc2) ∈ gn_meta.filter (fun t => !t.2.2.2.2.1) := List.mem_filter.mpr ⟨hmem, rfl⟩
            cases d with
            | zero => exact h.elim
            | succ d' =>
              dsimp only at h
              split at h
              · rename_i as o r heq
                obtain ⟨ho, hcs, hcl, hwp⟩ := h
                rw [hye] at hcl
                obtain ⟨vs, e1, e2, e3, e4⟩ := gn_pop_spec _ _ _ _ _ heq
                rw [List.append_nil] at e1
                subst e1
                subst e2
                have hM := gn_met ih hma hwp (fun w hw => by
                  rcases List.mem_cons.mp hw with rfl | hw
                  · rfl
                  · exact e4 w hw) (by have h9 : ac2 + 1 ≤ ml2 := hmne.2; rw [List.length_cons, e3]; exact h9)
                have hR : (gn_rm d').frames + 1 ≤ (gn_rm (d' + 1)).frames ∧ 8 + (ml2 + 11) + (gn_rm d').locals ≤ (gn_rm (d' + 1)).locals := by
                  have h9 : ml2 ≤ 21 := hmok.2.2.2.2.1
                  constructor
                  · exact Nat.le_refl _
                  · show 8 + (ml2 + 11) + 64 * d' ≤ 64 * (d' + 1); omega
                have hrec := gn_recv (ad := ad) hK hP ho hcl hmne.1
                have hpre : PreV s H y2.cls (ad o) (gn_Pc D cI cZ ad A (.ref o :: as) σ) (as.map (gn_cz ad)) := ⟨gn_B.blind, hrec, fun U hU hW => ⟨rfl, gn_B.of hU hW hP hD hK hN⟩⟩
                have hstk : (F0 m pc ls ((as.reverse ++ Value.ref o :: r).map (gn_cz ad))).stack = (as.map (gn_cz ad)).reverse ++ .ref (ad o) :: r.map (gn_cz ad) := by
                  show (as.reverse ++ Value.ref o :: r).map (gn_cz ad) = _
                  rw [List.map_append, List.map_reverse]
                  rfl
                have hcat := gn_cs_map ad hcs
                have kont : ∀ (rv : Option Value) (σ' : gn_Mem) (H1 : Heap) (locs1 : List Loc), gn_wp n (d' + 1) mi (pc + 3) lo (rv.toList ++ r) σ' Q → va_P D gn_cls (gn_ws cI cZ ad σ') H1 → va_D A (gn_ws cI cZ ad σ') → va_S A s.heap H1 locs1 → W p l e (gn_rm (d' + 1)) s m args below meth c H1 locs1 0 0 (MQ below (gn_Qc D cI cZ ad A Q) args s 0 0 A) (F0 m (pc + 3) ls ((rv.map (gn_cz ad)).toList ++ r.map (gn_cz ad))) := by
                  intro rv σ' H1 locs1 q1 q2 q3 q4
                  have h9 := ih _ _ _ _ _ _ _ q1 p e s m args below meth c hC0 H1 locs1 ls q2 q3 q4 hl
                  have e9 : (rv.toList ++ r).map (gn_cz ad) = (rv.map (gn_cz ad)).toList ++ r.map (gn_cz ad) := by
                    rw [List.map_append]
                    cases rv <;> rfl
                  rw [e9] at h9
                  exact h9
                rw [hoc] at hown
                rw [Bool.or_eq_true] at h1
                rcases h1 with h1 | h1
                · have h1 := of_decide_eq_true h1
                  have hlk2 : Cond.methodLink (gn_nm oc) i y2 ∈ gn_tbl := by
                    have h9 := gn_tin (gn_mw_in _ h1.2) rfl
                    simpa [gn_mw, hye] using h9
                  have hG : GoodIn gn_tbl (wsV (gn_nm oc) i y2.cls y2 (.code y2 by2 ml2 rt2 :: gn_tbl)) := by
                    intro w hw
                    unfold wsV at hw
                    rcases List.mem_append.mp hw with hw | hw
                    · have h8 : w ∈ gn_tbl := by
                        simp only [List.mem_cons, List.not_mem_nil, or_false] at hw
                        rcases hw with rfl | rfl | rfl | rfl
                        · exact hlk2
                        · exact gn_tin (gn_inst_in _ hflt) rfl
                        · exact gn_tin (gn_sel_in _ hflt) rfl
                        · exact gn_tin (gn_init_in _ hmem) rfl
                      exact ⟨h8, gn_tbl_good h8⟩
                    · exact gn_good_ws hma w hw
                  exact gn_callG (va_runV (As := as.map (gn_cz ad)) (rest := r.map (gn_cz ad)) ⟨hx, hb, rfl, hown, hts⟩ hM (cwV ac2 hts hG rfl rfl rfl ⟨rfl, hmok.2.1, hmok.2.2.1, hmok.2.2.2.1⟩ hR) hpre rfl (by rw [List.length_map]; exact e3) hl.1 hstk (lv_room hcat) hde ⟨Nat.zero_le _, Nat.zero_le _⟩) hS kont
                · have h1 := of_decide_eq_true h1
                  have hlk2 : va_Nw (.methodLinkNest (gn_nm oc) i y2 "GuestNoes") s := by
                    have h9 : va_Nw (.methodLinkNest (gn_nm oc) i (gn_y a) "GuestNoes") s := hN _ (List.mem_filter.mpr ⟨gn_mw_in _ h1.2, rfl⟩)
                    rw [hye] at h9
                    exact h9
                  exact gn_callG (va_runVN (C := y2.cls) (As := as.map (gn_cz ad)) (rest := r.map (gn_cz ad)) ⟨hx, hb, rfl, hown, hts⟩ hM ⟨va_cnB ac2 hts (gn_good_ws hma) rfl rfl rfl hlk2 (hts _ (gn_tin (gn_init_in _ hmem) rfl)) ⟨hmok.2.1, hmok.2.2.1, hmok.2.2.2.1⟩ hR, hts _ (gn_tin (gn_inst_in _ hflt) rfl), hts _ (gn_tin (gn_sel_in _ hflt) rfl)⟩ hpre rfl (by rw [List.length_map]; exact e3) hl.1 hstk (lv_room hcat) hde ⟨Nat.zero_le _, Nat.zero_le _⟩) hS kont
              · exact h.elim
        | invokestatic i =>
          simp only [Bool.and_eq_true] at hok
          obtain ⟨h0, h1⟩ := hok
          have hnx := Nat.eq_of_beq_eq_true h0
          subst hnx
          rw [Nat.add_sub_cancel_left] at hde
          cases d with
          | zero => exact h.elim
          | succ d' =>
            dsimp only at h
            rw [hoc] at hown
            simp only [Bool.or_eq_true, Bool.and_eq_true, decide_eq_true_eq] at h1
            by_cases v0 : v = 0
            · rw [if_pos v0] at h
              rcases h1 with ((h1 | h1) | h1) | h1
              · obtain ⟨⟨-, hmt⟩, h2⟩ := h1
                cases hma : gn_meta[a]? with
                | none => rw [hma] at h2; cases h2
                | some t =>
                  obtain ⟨y2, by2, ml2, rt2, st2, ac2, oc2⟩ := t
                  rw [hma] at h2
                  simp only [Bool.and_eq_true] at h2
                  obtain ⟨hst2, hac⟩ := h2
                  have hac := Nat.eq_of_beq_eq_true hac
                  subst hac
                  subst hst2
                  have hmem := List.mem_of_getElem? hma
                  have hmok := gn_meta_ok _ hmem
                  have hmne := gn_meta_ne _ hmem
                  have hye := gn_y_of hma
                  have hflt : (y2, by2, ml2, rt2, true, ac2, oc2) ∈ gn_meta.filter (fun t => t.2.2.2.2.1) := List.mem_filter.mpr ⟨hmem, rfl⟩
                  split at h
                  · rename_i as r heq
                    obtain ⟨hcs, hwp⟩ := h
                    obtain ⟨vs, e1, e2, e3, e4⟩ := gn_pop_spec _ _ _ _ _ heq
                    rw [List.append_nil] at e1
                    subst e1
                    subst e2
                    have hM := gn_met ih hma hwp (fun w hw => e4 w hw) (by have h9 : ac2 ≤ ml2 := hmne.2; rw [e3]; exact h9)
                    have hR : (gn_rm d').frames + 1 ≤ (gn_rm (d' + 1)).frames ∧ 8 + (ml2 + 11) + (gn_rm d').locals ≤ (gn_rm (d' + 1)).locals := by
                      have h9 : ml2 ≤ 21 := hmok.2.2.2.2.1
                      constructor
                      · exact Nat.le_refl _
                      · show 8 + (ml2 + 11) + 64 * d' ≤ 64 * (d' + 1); omega
                    have hpre : PreS s H (gn_Pc D cI cZ ad A as σ) (as.map (gn_cz ad)) := ⟨gn_B.blind, fun U hU hW => ⟨rfl, gn_B.of hU hW hP hD hK hN⟩⟩
                    have hstk : (F0 m pc ls ((as.reverse ++ r).map (gn_cz ad))).stack = (as.map (gn_cz ad)).reverse ++ r.map (gn_cz ad) := by
                      show (as.reverse ++ r).map (gn_cz ad) = _
                      rw [List.map_append, List.map_reverse]
                    have hcat := gn_cs_map ad hcs
                    have hlk2 : Cond.methodLink (gn_nm oc) i y2 ∈ gn_tbl := by
                      have h9 := gn_tin (gn_sw_in _ hmt) rfl
                      simpa [gn_sw, hye] using h9
                    have hG : GoodIn gn_tbl (va_wsS (gn_nm oc) i y2 (.code y2 by2 ml2 rt2 :: gn_tbl)) := by
                      intro w hw
                      unfold va_wsS at hw
                      rcases List.mem_append.mp hw with hw | hw
                      · have h8 : w ∈ gn_tbl := by
                          simp only [List.mem_cons, List.not_mem_nil, or_false] at hw
                          rcases hw with rfl | rfl | rfl
                          · exact hlk2
                          · exact gn_tin (gn_stat_in _ hflt) rfl
                          · exact gn_tin (gn_init_in _ hmem) rfl
                        exact ⟨h8, gn_tbl_good h8⟩
                      · exact gn_good_ws hma w hw
                    exact gn_callG (va_runS (As := as.map (gn_cz ad)) (rest := r.map (gn_cz ad)) ⟨hx, hb, rfl, hown, hts⟩ hM (va_cwS ac2 hts hG rfl rfl rfl ⟨hmok.2.1, hmok.2.2.1, hmok.2.2.2.1⟩ hR) hpre rfl (by rw [List.length_map]; exact e3) hl.1 hstk (lv_room hcat) hde ⟨Nat.zero_le _, Nat.zero_le _⟩) hS (by
                      intro rv σ' H1 locs1 q1 q2 q3 q4
                      have h9 := ih _ _ _ _ _ _ _ q1 p e s m args below meth c hC0 H1 locs1 ls q2 q3 q4 hl
                      have e9 : (rv.toList ++ r).map (gn_cz ad) = (rv.map (gn_cz ad)).toList ++ r.map (gn_cz ad) := by
                        rw [List.map_append]
                        cases rv <;> rfl
                      rw [e9] at h9
                      exact h9)
                  · exact h.elim
              · exact absurd (v0.symm.trans h1.1) (by decide)
              · exact absurd (v0.symm.trans h1.1) (by decide)
              · exact absurd (v0.symm.trans h1.1) (by decide)
            · rw [if_neg v0] at h
              by_cases v1 : v = 1
              · rw [if_pos v1] at h
                have hlink : (Cond.methodLink (gn_nm oc) i arraycopyName).before args s = true := by
                  rcases h1 with ((h1 | h1) | h1) | h1
                  · exact absurd h1.1.1 v0
                  · exact hts _ (gn_tin (gn_sw_in _ h1.2) rfl)
                  · exact absurd (v1.symm.trans h1.1) (by decide)
                  · exact absurd (v1.symm.trans h1.1) (by decide)
                split at h
                · rename_i k dp o1 sp o0
                  split at h
                  · rename_i n0 n1 hq0 hq1
                    obtain ⟨hne, z1, z2, z3, z4, z5, hwp⟩ := h
                    have ho0 := gn_ly_lt hq0
                    have ho1 := gn_ly_lt hq1
                    have ha0 : (gn_ws cI cZ ad σ)[o0]? = some (ad o0, .inl (cI, n0, .inl (σ o0))) := by rw [gn_ws_get ho0, gn_ce_arr hq0]; rfl
                    have ha1 : (gn_ws cI cZ ad σ)[o1]? = some (ad o1, .inl (cI, n1, .inl (σ o1))) := by rw [gn_ws_get ho1, gn_ce_arr hq1]; rfl
                    have hset : (gn_ws cI cZ ad σ).set o1 (ad o1, .inl (cI, n1, .inl (va_cpy (σ o0) (σ o1) sp.toNatClampNeg dp.toNatClampNeg k.toNatClampNeg))) = gn_ws cI cZ ad (gn_upF σ o1 (va_cpy (σ o0) (σ o1) sp.toNatClampNeg dp.toNatClampNeg k.toNatClampNeg)) := gn_ws_set ho1 (by rw [gn_ce_arr hq1, gn_upF_eq]; rfl) (fun o' h' => gn_ce_ne (gn_upF_ne h'))
                    have hloc : (([] : List Value).map fun v => v.category).sum + (nativeFrameWords "java/lang/System" "arraycopy" 5 + 11) ≤ (gn_rm (d' + 1)).locals := by
                      have h9 : nativeFrameWords "java/lang/System" "arraycopy" 5 = 7 := by decide +kernel
                      rw [h9]
                      show 0 + (7 + 11) ≤ 64 * (d' + 1)
                      omega
                    exact va_copyi (rest := []) hx hb (by rw [hl.1]) hown hlink (hts _ (gn_tin gn_acn rfl)) (hts _ (gn_tin gn_acs rfl)) (hts _ (gn_tin gn_sysi rfl)) hK hP hD hS o0 o1 0 0 ha0 ha1 rfl rfl rfl z1 z2 z3 z4 z5 (fun _ _ => rfl) (Nat.succ_le_succ (Nat.zero_le _)) hloc hde (fun H1 locs1 p1 p2 p3 => ih _ _ _ _ _ _ _ hwp p e s m args below meth c hC0 H1 locs1 ls (hset ▸ p1) (hset ▸ p2) p3 hl)
                  · exact h.elim
                · exact h.elim
              · rw [if_neg v1] at h
                exact h.elim
        | ireturn =>
          simp only [Bool.and_eq_true, Bool.or_eq_true, decide_eq_true_eq] at hok
          obtain ⟨h0, h1⟩ := hok
          have hnx := Nat.eq_of_beq_eq_true h0
          subst hnx
          rw [Nat.add_sub_cancel_left] at hde
          dsimp only at h
          split at h
          · rename_i x
            obtain ⟨hty, hQ⟩ := h
            have hrt : (gn_meta.getD mi (⟨"", "", ""⟩, prog_1_method_1_code, 0, none, false, 0, 0)).2.2.2.1 = rt := by simp [List.getD, hm]
            rw [hrt] at hty
            have hq : ∀ t : State, t.heap = H → s.WarmedH t.vm → gn_Qc D cI cZ ad A Q args s (.returned (some (.int x))) t := fun t ht hW => ⟨⟨some (.int x), σ, rfl, hQ, gn_B.of ht hW hP hD hK hN⟩, hS.F ht⟩
            rcases h1 with h1 | h1
            · exact W.zret (ty := .int) hx hb (by rw [hr, h1]) rfl hq hS.2.2 hde (hlocks := hlk)
            · have h01 : x = 0 ∨ x = 1 := by
                rcases hty with hty | hty
                · rw [h1] at hty; cases hty
                · exact hty
              exact W.zret (ty := .boolean) hx hb (by rw [hr, h1]) (by rcases h01 with rfl | rfl <;> rfl) hq hS.2.2 hde (hlocks := hlk)
          · exact h.elim
        | areturn =>
          simp only [Bool.and_eq_true] at hok
          obtain ⟨h0, h1⟩ := hok
          have hnx := Nat.eq_of_beq_eq_true h0
          subst hnx
          rw [Nat.add_sub_cancel_left] at hde
          dsimp only at h
          split at h
          · rename_i o
            have hq : ∀ t : State, t.heap = H → s.WarmedH t.vm → gn_Qc D cI cZ ad A Q args s (.returned (some (.ref (ad o)))) t := fun t ht hW => ⟨⟨some (.ref o), σ, rfl, h, gn_B.of ht hW hP hD hK hN⟩, hS.F ht⟩
            split at h1
            · rename_i nm
              exact W.aret hx hb hr (Or.inl ⟨_, rfl⟩) (Or.inr ⟨_, rfl⟩) hq hS.2.2 hde (hlocks := hlk)
            · cases h1
          · exact h.elim
        | return_ =>
          simp only [Bool.and_eq_true, decide_eq_true_eq] at hok
          obtain ⟨h0, h1⟩ := hok
          have hnx := Nat.eq_of_beq_eq_true h0
          subst hnx
          rw [Nat.add_sub_cancel_left] at hde
          dsimp only at h
          split at h
          · exact W.vret hx hb (by rw [hr, h1]) (fun t ht hW => ⟨⟨none, σ, rfl, h, gn_B.of ht hW hP hD hK hN⟩, hS.F ht⟩) hS.2.2 hde (hlocks := hlk)
          · exact h.elim
        | _ => exact h.elim
