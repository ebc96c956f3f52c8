/-! soundness of the pure machine, two: the simple steps; printed by wip/whole/gen/sound2.py -/
def gn_B (D : va_G) (cI cZ : ClassId) (ad : Nat → Nat) (A : Nat → Prop) (σ : gn_Mem) (t : State) : Prop := va_P D gn_cls (gn_ws cI cZ ad σ) t.heap ∧ va_K D gn_cls [(cI, .int), (cZ, .boolean)] t ∧ va_D A (gn_ws cI cZ ad σ) ∧ ∀ w ∈ gn_nst, va_Nw w t
def gn_Pc (D : va_G) (cI cZ : ClassId) (ad : Nat → Nat) (A : Nat → Prop) (av : List Value) (σ : gn_Mem) : Array Value → State → Prop := va_Pc (av.map (gn_cz ad)) (gn_B D cI cZ ad A σ)
def gn_Qc (D : va_G) (cI cZ : ClassId) (ad : Nat → Nat) (A : Nat → Prop) (Q : Option Value → gn_Mem → Prop) : Array Value → State → Outcome → State → Prop := fun _ st oc t => (∃ (rv : Option Value) (σ' : gn_Mem), oc = .returned (rv.map (gn_cz ad)) ∧ Q rv σ' ∧ gn_B D cI cZ ad A σ' t) ∧ va_F A st t
def gn_rm (d : Nat) : Room := { frames := d, cells := 0, slots := 0, locals := 64 * d }
def gn_C (D : va_G) (cI cZ : ClassId) (mi : Nat) (p : Program) (s : State) (m : MethodId) (args : Array Value) (meth : Method) (c : Code) : Prop :=
  p.tables.exec = Jvm.exec ∧ (∃ (y : MethodName) (bytes : ByteArray) (ml : Nat) (rt : Option FieldType) (stt : Bool) (ac oc : Nat), gn_meta[mi]? = some (y, bytes, ml, rt, stt, ac, oc) ∧ c.code = bytes ∧ c.maxLocals = ml ∧ s.vm.findClass y.cls = some m.cls ∧ meth.sig.returnType = rt) ∧ meth.locks = false ∧ (∀ w ∈ gn_tbl, w.before args s = true) ∧ va_K D gn_cls [(cI, .int), (cZ, .boolean)] s ∧ ∀ w ∈ gn_nst, va_Nw w s
theorem gn_B.blind {D : va_G} {cI cZ : ClassId} {ad : Nat → Nat} {A : Nat → Prop} {av : List Value} {σ : gn_Mem} : FrameBlind (gn_Pc D cI cZ ad A av σ) := by
  intro a U g mk h
  obtain ⟨h1, h2, h3, h4, h5⟩ := h
  exact ⟨h1, h2, va_K.moved (u := U) (U := U.calling g mk a) (Vm.Alike.refl U.vm) h3, h4, fun w hw => gn_nst_same hw (u := U) (U := U.calling g mk a) rfl (h5 w hw)⟩
/-- the world at another state of the run -/
theorem gn_B.of {D : va_G} {cI cZ : ClassId} {ad : Nat → Nat} {A : Nat → Prop} {σ : gn_Mem} {s t : State} {H : Heap} (ht : t.heap = H) (hW : s.WarmedH t.vm) (hP : va_P D gn_cls (gn_ws cI cZ ad σ) H) (hD : va_D A (gn_ws cI cZ ad σ)) (hK : va_K D gn_cls [(cI, .int), (cZ, .boolean)] s) (hN : ∀ w ∈ gn_nst, va_Nw w s) : gn_B D cI cZ ad A σ t :=
  ⟨by rw [ht]; exact hP, va_K.moved hW.alike hK, hD, fun w hw => gn_nst_warm hw hW (hN w hw)⟩
theorem gn_fld_spec {σ : gn_Mem} {o q k : Nat} {w : Value} (h : gn_fld σ o q k = some w) : ∃ fs t, gn_ly o = .inr (q, fs) ∧ fs[k]? = some t ∧ ∀ ad : Nat → Nat, gn_cz ad w = gn_fv ad σ o k t := by
  unfold gn_fld at h
  cases hl : gn_ly o with
  | inl x => rw [hl] at h; cases h
  | inr x =>
    obtain ⟨q', fs⟩ := x
    rw [hl] at h
    dsimp only at h
    cases hq : Nat.beq q' q with
    | false => rw [hq] at h; cases h
    | true =>
      rw [hq] at h
      have e := Nat.eq_of_beq_eq_true hq
      subst e
      cases hf : fs[k]? with
      | none => rw [hf] at h; cases h
      | some t =>
        rw [hf] at h
        refine ⟨fs, t, rfl, hf, fun ad => ?_⟩
        rcases t with _ | _ | _ | t <;> (cases h; rfl)
theorem gn_isS_spec {s o q k : Nat} (h : gn_isS s o q k = true) : ∃ fs, gn_ly o = .inr (q, fs) ∧ fs[k]? = some s := by
  unfold gn_isS at h
  cases hl : gn_ly o with
  | inl x => rw [hl] at h; cases h
  | inr x =>
    obtain ⟨q', fs⟩ := x
    rw [hl] at h
    dsimp only at h
    cases hq : Nat.beq q' q with
    | false => rw [hq] at h; cases h
    | true =>
      rw [hq] at h
      have e := Nat.eq_of_beq_eq_true hq
      subst e
      cases hf : fs[k]? with
      | none => rw [hf] at h; cases h
      | some t =>
        rw [hf] at h
        have e2 := Nat.eq_of_beq_eq_true h
        subst e2
        exact ⟨fs, rfl, hf⟩
noncomputable def gn_tyOk (o k : Nat) : Bool := match gn_lay o with
  | .inr (q, fs) => Nat.blt q 13 && Nat.beq fs.length (gn_cls.getD q ("", gn_T0, 0)).2.2 && (match fs[k]? with
    | some 0 => decide ((gn_tys.getD q gn_ty0) k = .int)
    | some 1 => decide ((gn_tys.getD q gn_ty0) k = .object "GuestNoes$Table")
    | some 2 => decide ((gn_tys.getD q gn_ty0) k = .boolean)
    | _ => true)
  | .inl _ => true
set_option maxRecDepth 100000 in
theorem gn_tyOk_all : ∀ o, o < 63 → ∀ k, k < 35 → gn_tyOk o k = true := by decide +kernel
theorem gn_ly_lay {o : Nat} (h : o < gn_NO) : gn_ly o = gn_lay o := by
  unfold gn_ly
  have : Nat.blt o gn_NO = true := by
    unfold Nat.blt
    exact Nat.ble_eq_true_of_le h
  rw [this]; rfl
theorem gn_ty_of {o q k t : Nat} {fs : List Nat} (h : gn_ly o = .inr (q, fs)) (hq : q < 13) (ht : fs[k]? = some t) : (t = 0 → (gn_tys.getD q gn_ty0) k = .int) ∧ (t = 1 → (gn_tys.getD q gn_ty0) k = .object "GuestNoes$Table") ∧ (t = 2 → (gn_tys.getD q gn_ty0) k = .boolean) := by
  have ho := gn_ly_lt' h (by omega)
  have hk : k < 35 := by
    have h1 := gn_tyOk_all o ho 0 (by decide)
    unfold gn_tyOk at h1
    rw [← gn_ly_lay ho, h] at h1
    simp only [Bool.and_eq_true] at h1
    have h2 := Nat.eq_of_beq_eq_true h1.1.2
    have h3 : (gn_cls.getD q ("", gn_T0, 0)).2.2 ≤ 35 := (by decide : ∀ q, q < 13 → (gn_cls.getD q ("", gn_T0, 0)).2.2 ≤ 35) q hq
    have h4 := (List.getElem?_eq_some_iff.mp ht).1
    omega
  have h1 := gn_tyOk_all o ho k hk
  unfold gn_tyOk at h1
  rw [← gn_ly_lay ho, h] at h1
  simp only [Bool.and_eq_true, ht] at h1
  refine ⟨fun e => ?_, fun e => ?_, fun e => ?_⟩ <;> (subst e; exact of_decide_eq_true h1.2)
theorem gn_cls_at {q : Nat} (h : q < 13) : ∃ C N, gn_cls[q]? = some (C, gn_Tf q, N) ∧ N = (gn_cls.getD q ("", gn_T0, 0)).2.2 := by
  have h1 : q < gn_cls.length := h
  refine ⟨(gn_cls[q]).1, (gn_cls[q]).2.2, ?_, ?_⟩
  · rw [List.getElem?_eq_getElem h1]
    simp [gn_Tf, List.getD, List.getElem?_eq_getElem h1]
  · simp [List.getD, List.getElem?_eq_getElem h1]
theorem gn_lays_of {q : Nat} {C : String} {T : u_T} {N : Nat} (h : gn_cls[q]? = some (C, T, N)) : ∀ w ∈ u_ws C T N, w ∈ gn_tbl := by
  intro w hw
  refine gn_tin (gn_lays_in w (List.mem_flatMap.mpr ⟨_, List.mem_of_getElem? h, hw⟩)) ?_
  obtain ⟨k, -, rfl⟩ := List.mem_map.mp hw
  unfold u_lay
  split <;> rfl
set_option maxRecDepth 100000 in
theorem gn_maxc : Cond.code Lib.Math.max.name Lib.Math.max.code 2 (some .int) ∈ lw_tbl := List.mem_of_getElem? (i := 643) (by decide +kernel)
set_option maxRecDepth 100000 in
theorem gn_minc : Cond.code Lib.Math.min.name Lib.Math.min.code 2 (some .int) ∈ lw_tbl := List.mem_of_getElem? (i := 494) (by decide +kernel)
set_option maxRecDepth 100000 in
theorem gn_maxs : Cond.static Lib.Math.max.name ∈ lw_tbl := List.mem_of_getElem? (i := 642) (by decide +kernel)
set_option maxRecDepth 100000 in
theorem gn_mins : Cond.static Lib.Math.min.name ∈ lw_tbl := List.mem_of_getElem? (i := 493) (by decide +kernel)
set_option maxRecDepth 100000 in
theorem gn_mathi : Cond.initialized "java/lang/Math" ∈ lw_tbl := List.mem_of_getElem? (i := 144) (by decide +kernel)
theorem gn_cs_map {r : List Value} (ad : Nat → Nat) (h : gn_cs r = true) : (((r.map (gn_cz ad))).map fun v => v.category).sum ≤ 8 := by
  have e : (r.map (gn_cz ad)).map (fun v => v.category) = r.map Value.category := by
    rw [List.map_map]
    exact List.map_congr_left (fun v _ => gn_cz_cat ad v)
  rw [e]
  exact Nat.le_of_ble_eq_true h
set_option maxHeartbeats 4000000 in
set_option maxRecDepth 100000 in
theorem gn_stp_sound {l : Launch} {D : va_G} {cI cZ : ClassId} {ad : Nat → Nat} {A : Nat → Prop} {d mi : Nat} {p : Program} {e : Env} {s : State} {m : MethodId} {args : Array Value} {below : List Frame} {meth : Method} {c : Code} (hC : gn_C D cI cZ mi p s m args meth c) {pc : Nat} {lo st : List Value} {σ : gn_Mem} {pc' : Nat} {lo' st' : List Value} {σ' : gn_Mem} (h : gn_stp d mi pc lo st σ = some (pc', lo', st', σ')) {H : Heap} {locs : List Loc} {ls : Array Slot} (hP : va_P D gn_cls (gn_ws cI cZ ad σ) H) (hD : va_D A (gn_ws cI cZ ad σ)) (hS : va_S A s.heap H locs) (hl : gn_LV ad ls c.maxLocals lo) {Qf : State → Prop}
    (kk : ∀ (H1 : Heap) (locs1 : List Loc) (ls1 : Array Slot), va_P D gn_cls (gn_ws cI cZ ad σ') H1 → va_D A (gn_ws cI cZ ad σ') → va_S A s.heap H1 locs1 → gn_LV ad ls1 c.maxLocals lo' → W p l e (gn_rm d) s m args below meth c H1 locs1 0 0 Qf (F0 m pc' ls1 (st'.map (gn_cz ad)))) : W p l e (gn_rm d) s m args below meth c H locs 0 0 Qf (F0 m pc ls (st.map (gn_cz ad))) := by
  obtain ⟨hx, ⟨y, bytes, ml, rt, stt, ac, oc, hm, hb, hml, hown, hr⟩, hlk, hts, hK, hN⟩ := hC
  have hoc : y.cls = gn_nm oc := (gn_meta_ok _ (List.mem_of_getElem? hm)).2.2.2.2.2
  unfold gn_stp at h
  cases hcd : gn_cd mi pc with
  | none => rw [hcd] at h; cases h
  | some E =>
    obtain ⟨ins, nx, a, b, v⟩ := E
    rw [hcd] at h
    have hok := gn_cd_ok hcd
    simp only [gn_okE, hm] at hok
    rw [Bool.and_eq_true] at hok
    obtain ⟨hde, hok⟩ := hok
    have hde := of_decide_eq_true hde
    have k0 := kk H locs ls
    cases ins with
    | iadd =>
      have hnx := Nat.eq_of_beq_eq_true hok
      subst hnx
      rw [Nat.add_sub_cancel_left] at hde
      dsimp only at h
      split at h
      · cases h
        exact lv_iadd hx hb hde (k0 hP hD hS hl)
      · cases h
    | isub =>
      have hnx := Nat.eq_of_beq_eq_true hok
      subst hnx
      rw [Nat.add_sub_cancel_left] at hde
      dsimp only at h
      split at h
      · cases h
        exact lv_isub hx hb hde (k0 hP hD hS hl)
      · cases h
    | imul =>
      have hnx := Nat.eq_of_beq_eq_true hok
      subst hnx
      rw [Nat.add_sub_cancel_left] at hde
      dsimp only at h
      split at h
      · cases h
        exact lv_imul hx hb hde (k0 hP hD hS hl)
      · cases h
    | iand =>
      have hnx := Nat.eq_of_beq_eq_true hok
      subst hnx
      rw [Nat.add_sub_cancel_left] at hde
      dsimp only at h
      split at h
      · cases h
        exact lv_iand hx hb hde (k0 hP hD hS hl)
      · cases h
    | ior =>
      have hnx := Nat.eq_of_beq_eq_true hok
      subst hnx
      rw [Nat.add_sub_cancel_left] at hde
      dsimp only at h
      split at h
      · cases h
        exact lv_ior hx hb hde (k0 hP hD hS hl)
      · cases h
    | ixor =>
      have hnx := Nat.eq_of_beq_eq_true hok
      subst hnx
      rw [Nat.add_sub_cancel_left] at hde
      dsimp only at h
      split at h
      · cases h
        exact lv_ixor hx hb hde (k0 hP hD hS hl)
      · cases h
    | ishl =>
      have hnx := Nat.eq_of_beq_eq_true hok
      subst hnx
      rw [Nat.add_sub_cancel_left] at hde
      dsimp only at h
      split at h
      · cases h
        exact lv_ishl hx hb hde (k0 hP hD hS hl)
      · cases h
    | ishr =>
      have hnx := Nat.eq_of_beq_eq_true hok
      subst hnx
      rw [Nat.add_sub_cancel_left] at hde
      dsimp only at h
      split at h
      · cases h
        exact lv_ishr hx hb hde (k0 hP hD hS hl)
      · cases h
    | ladd =>
      have hnx := Nat.eq_of_beq_eq_true hok
      subst hnx
      rw [Nat.add_sub_cancel_left] at hde
      dsimp only at h
      split at h
      · cases h
        exact lv_ladd hx hb hde (k0 hP hD hS hl)
      · cases h
    | lmul =>
      have hnx := Nat.eq_of_beq_eq_true hok
      subst hnx
      rw [Nat.add_sub_cancel_left] at hde
      dsimp only at h
      split at h
      · cases h
        exact lv_lmul hx hb hde (k0 hP hD hS hl)
      · cases h
    | land =>
      have hnx := Nat.eq_of_beq_eq_true hok
      subst hnx
      rw [Nat.add_sub_cancel_left] at hde
      dsimp only at h
      split at h
      · cases h
        exact lv_land hx hb hde (k0 hP hD hS hl)
      · cases h
    | iushr =>
      have hnx := Nat.eq_of_beq_eq_true hok
      subst hnx
      rw [Nat.add_sub_cancel_left] at hde
      dsimp only at h
      split at h
      · cases h
        exact lv_iushr hx hb hde rfl (k0 hP hD hS hl)
      · cases h
    | i2l =>
      have hnx := Nat.eq_of_beq_eq_true hok
      subst hnx
      rw [Nat.add_sub_cancel_left] at hde
      dsimp only at h
      split at h
      · cases h
        exact lv_i2l hx hb hde rfl (k0 hP hD hS hl)
      · cases h
    | l2i =>
      have hnx := Nat.eq_of_beq_eq_true hok
      subst hnx
      rw [Nat.add_sub_cancel_left] at hde
      dsimp only at h
      split at h
      · cases h
        exact lv_l2i hx hb hde rfl (k0 hP hD hS hl)
      · cases h
    | aload_n k =>
      simp only [Bool.and_eq_true] at hok
      obtain ⟨h0, h1⟩ := hok
      have hnx := Nat.eq_of_beq_eq_true h0
      subst hnx
      rw [Nat.add_sub_cancel_left] at hde
      dsimp only at h
      split at h
      · rename_i x heq
        cases h
        exact lv_aload_n hx hb hde (Nat.eq_of_beq_eq_true h1) (hl.at heq (fun z => by cases z)) (k0 hP hD hS hl)
      · cases h
    | iload_n k =>
      simp only [Bool.and_eq_true] at hok
      obtain ⟨h0, h1⟩ := hok
      have hnx := Nat.eq_of_beq_eq_true h0
      subst hnx
      rw [Nat.add_sub_cancel_left] at hde
      dsimp only at h
      split at h
      · rename_i x heq
        cases h
        exact lv_iload_n hx hb hde (Nat.eq_of_beq_eq_true h1) (hl.at heq (fun z => by cases z)) (k0 hP hD hS hl)
      · cases h
    | lload_n k =>
      simp only [Bool.and_eq_true] at hok
      obtain ⟨h0, h1⟩ := hok
      have hnx := Nat.eq_of_beq_eq_true h0
      subst hnx
      rw [Nat.add_sub_cancel_left] at hde
      dsimp only at h
      split at h
      · rename_i x heq
        cases h
        exact lv_lload_n hx hb hde (Nat.eq_of_beq_eq_true h1) (hl.at heq (fun z => by cases z)) (k0 hP hD hS hl)
      · cases h
    | iload i =>
      simp only [Bool.and_eq_true] at hok
      obtain ⟨h0, h1⟩ := hok
      have hnx := Nat.eq_of_beq_eq_true h0
      subst hnx
      rw [Nat.add_sub_cancel_left] at hde
      have h1 := Nat.eq_of_beq_eq_true h1
      subst h1
      dsimp only at h
      split at h
      · rename_i x heq
        cases h
        exact lv_iload hx hb hde (hl.at heq (fun z => by cases z)) (k0 hP hD hS hl)
      · cases h
    | istore_n k =>
      simp only [Bool.and_eq_true] at hok
      obtain ⟨⟨h0, h1⟩, h2⟩ := hok
      have hnx := Nat.eq_of_beq_eq_true h0
      subst hnx
      rw [Nat.add_sub_cancel_left] at hde
      have h2 : a < c.maxLocals := by rw [hml]; exact Nat.le_of_ble_eq_true h2
      dsimp only at h
      split at h
      · rename_i x r
        cases hs : gn_okS lo a with
        | false => rw [hs] at h; cases h
        | true =>
          rw [hs] at h
          cases h
          exact lv_istore_n hx hb hde (Nat.eq_of_beq_eq_true h1) hl.has h2 rfl (fun ls' h' => kk H locs ls' hP hD hS (gn_LV.set1 (v := .int x) hs h'))
      · cases h
    | astore_n k =>
      simp only [Bool.and_eq_true] at hok
      obtain ⟨⟨h0, h1⟩, h2⟩ := hok
      have hnx := Nat.eq_of_beq_eq_true h0
      subst hnx
      rw [Nat.add_sub_cancel_left] at hde
      have h2 : a < c.maxLocals := by rw [hml]; exact Nat.le_of_ble_eq_true h2
      dsimp only at h
      split at h
      · rename_i x r
        cases hs : gn_okS lo a with
        | false => rw [hs] at h; cases h
        | true =>
          rw [hs] at h
          cases h
          exact lv_astore_n hx hb hde (Nat.eq_of_beq_eq_true h1) hl.has h2 rfl (fun ls' h' => kk H locs ls' hP hD hS (gn_LV.set1 (v := .ref x) hs h'))
      · cases h
    | lstore_n k =>
      simp only [Bool.and_eq_true] at hok
      obtain ⟨⟨h0, h1⟩, h2⟩ := hok
      have hnx := Nat.eq_of_beq_eq_true h0
      subst hnx
      rw [Nat.add_sub_cancel_left] at hde
      have h2 : a + 1 < c.maxLocals := by rw [hml]; exact Nat.le_of_ble_eq_true h2
      dsimp only at h
      split at h
      · rename_i x r
        cases hs : gn_okS lo a with
        | false => rw [hs] at h; cases h
        | true =>
          rw [hs] at h
          cases h
          exact lv_lstore_n hx hb hde (Nat.eq_of_beq_eq_true h1) hl.has h2 rfl (fun ls' h' => kk H locs ls' hP hD hS (gn_LV.set2 (v := .long x) hs h'))
      · cases h
    | istore i =>
      simp only [Bool.and_eq_true] at hok
      obtain ⟨⟨h0, h1⟩, h2⟩ := hok
      have hnx := Nat.eq_of_beq_eq_true h0
      subst hnx
      rw [Nat.add_sub_cancel_left] at hde
      have h1 := Nat.eq_of_beq_eq_true h1
      subst h1
      have h2 : i < c.maxLocals := by rw [hml]; exact Nat.le_of_ble_eq_true h2
      dsimp only at h
      split at h
      · rename_i x r
        cases hs : gn_okS lo i with
        | false => rw [hs] at h; cases h
        | true =>
          rw [hs] at h
          cases h
          exact lv_istore hx hb hde hl.has h2 rfl (fun ls' h' => kk H locs ls' hP hD hS (gn_LV.set1 (v := .int x) hs h'))
      · cases h
    | iinc i n =>
      simp only [Bool.and_eq_true] at hok
      obtain ⟨⟨⟨h0, h1⟩, h2⟩, h3⟩ := hok
      have hnx := Nat.eq_of_beq_eq_true h0
      subst hnx
      rw [Nat.add_sub_cancel_left] at hde
      have h1 := Nat.eq_of_beq_eq_true h1
      subst h1
      have h2 : i < c.maxLocals := by rw [hml]; exact Nat.le_of_ble_eq_true h2
      have h3 := of_decide_eq_true h3
      dsimp only at h
      split at h
      · rename_i x heq
        cases hs : gn_okS lo i with
        | false => rw [hs] at h; cases h
        | true =>
          rw [hs] at h
          cases h
          have hin := gn_lvs_in (ad := ad) (lo := lo) (i := i) (by rw [heq]; intro z; cases z)
          rw [heq] at hin
          obtain ⟨kx, hkx⟩ := List.getElem?_of_mem hin
          exact lv_iinc (v := x + v) hx hb hde hl.has hkx (by rw [h3]) h2 rfl (fun ls' h' => kk H locs ls' hP hD hS (gn_LV.set1 (v := .int (x + v)) hs h'))
      · cases h
    | iconst n =>
      simp only [Bool.and_eq_true] at hok
      obtain ⟨h0, h1⟩ := hok
      have hnx := Nat.eq_of_beq_eq_true h0
      subst hnx
      rw [Nat.add_sub_cancel_left] at hde
      have h1 := of_decide_eq_true h1
      cases h
      exact lv_iconst hx hb hde h1 (k0 hP hD hS hl)
    | bipush n =>
      simp only [Bool.and_eq_true] at hok
      obtain ⟨h0, h1⟩ := hok
      have hnx := Nat.eq_of_beq_eq_true h0
      subst hnx
      rw [Nat.add_sub_cancel_left] at hde
      have h1 := of_decide_eq_true h1
      cases h
      exact lv_bipush hx hb hde h1 (k0 hP hD hS hl)
    | sipush n =>
      simp only [Bool.and_eq_true] at hok
      obtain ⟨h0, h1⟩ := hok
      have hnx := Nat.eq_of_beq_eq_true h0
      subst hnx
      rw [Nat.add_sub_cancel_left] at hde
      have h1 := of_decide_eq_true h1
      cases h
      exact lv_sipush hx hb hde h1 (k0 hP hD hS hl)
    | ldc i =>
      simp only [Bool.and_eq_true] at hok
      obtain ⟨h0, h1⟩ := hok
      have hnx := Nat.eq_of_beq_eq_true h0
      subst hnx
      rw [Nat.add_sub_cancel_left] at hde
      have h1 := of_decide_eq_true h1
      have h2 := hts _ (gn_tin (gn_cw_in _ h1) rfl)
      rw [hoc] at hown
      cases h
      exact lv_ldc hx hb hown h2 hde (k0 hP hD hS hl)
    | ldc_w i =>
      simp only [Bool.and_eq_true] at hok
      obtain ⟨h0, h1⟩ := hok
      have hnx := Nat.eq_of_beq_eq_true h0
      subst hnx
      rw [Nat.add_sub_cancel_left] at hde
      have h1 := of_decide_eq_true h1
      have h2 := hts _ (gn_tin (gn_cw_in _ h1) rfl)
      rw [hoc] at hown
      cases h
      exact lv_ldcw hx hb hown h2 hde (k0 hP hD hS hl)
    | ldc2_w i =>
      simp only [Bool.and_eq_true] at hok
      obtain ⟨h0, h1⟩ := hok
      have hnx := Nat.eq_of_beq_eq_true h0
      subst hnx
      rw [Nat.add_sub_cancel_left] at hde
      have h1 := of_decide_eq_true h1
      have h2 := hts _ (gn_tin (gn_lw_in _ h1) rfl)
      rw [hoc] at hown
      cases h
      exact lv_ldc2 hx hb hown h2 hde (k0 hP hD hS hl)
    | dup =>
      have hnx := Nat.eq_of_beq_eq_true hok
      subst hnx
      rw [Nat.add_sub_cancel_left] at hde
      dsimp only at h
      split at h
      · rename_i w r
        cases hw : gn_isL w with
        | true => rw [hw] at h; cases h
        | false =>
          rw [hw] at h
          cases h
          exact lv_dup hx hb hde (by rw [gn_cz_cat]; exact gn_isL_cat hw) (k0 hP hD hS hl)
      · cases h
    | pop =>
      have hnx := Nat.eq_of_beq_eq_true hok
      subst hnx
      rw [Nat.add_sub_cancel_left] at hde
      dsimp only at h
      split at h
      · rename_i w r
        cases hw : gn_isL w with
        | true => rw [hw] at h; cases h
        | false =>
          rw [hw] at h
          cases h
          exact lv_pop hx hb hde (by rw [gn_cz_cat]; exact gn_isL_cat hw) (k0 hP hD hS hl)
      · cases h
    | dup2 =>
      have hnx := Nat.eq_of_beq_eq_true hok
      subst hnx
      rw [Nat.add_sub_cancel_left] at hde
      dsimp only at h
      split at h
      · rename_i w u r
        cases hw : gn_isL w with
        | true => rw [hw] at h; cases h
        | false =>
          cases hu : gn_isL u with
          | true => rw [hw, hu] at h; cases h
          | false =>
            rw [hw, hu] at h
            cases h
            exact lv_dup2_11 hx hb hde (by rw [gn_cz_cat]; exact gn_isL_cat hw) (by rw [gn_cz_cat]; exact gn_isL_cat hu) (k0 hP hD hS hl)
      · cases h
    | getfield i =>
      simp only [Bool.and_eq_true] at hok
      obtain ⟨⟨⟨h0, h1⟩, h2⟩, h3⟩ := hok
      have hnx := Nat.eq_of_beq_eq_true h0
      subst hnx
      rw [Nat.add_sub_cancel_left] at hde
      have h2 : a < 13 := Nat.le_of_ble_eq_true h2
      have h3 : b < (gn_cls.getD a ("", gn_T0, 0)).2.2 := Nat.le_of_ble_eq_true h3
      obtain ⟨C, N, hc, hNe⟩ := gn_cls_at h2
      rw [← hNe] at h3
      dsimp only at h
      split at h
      · rename_i o r
        cases hf : gn_fld σ o a b with
        | none => rw [hf] at h; cases h
        | some w =>
          rw [hf] at h
          cases h
          obtain ⟨fs, t, g1, g2, g3⟩ := gn_fld_spec hf
          have ho := gn_ly_lt' g1 (by omega)
          have he : (gn_ws cI cZ ad σ)[o]? = some (ad o, .inr (a, fs.mapIdx (fun k t => gn_fv ad σ o k t))) := by rw [gn_ws_get ho, gn_ce_obj g1]
          have hv : (fs.mapIdx (fun k t => gn_fv ad σ o k t))[b]? = some (gn_cz ad w) := by rw [List.getElem?_mapIdx, g2, g3]; rfl
          rw [hoc] at hown
          rw [Bool.or_eq_true] at h1
          rcases h1 with h1 | h1
          · have hlink := hts _ (gn_tin (gn_fw_in _ (of_decide_eq_true h1)) rfl)
            exact va_get (D := D) hx hb hts (gn_lays_of hc) hown hK hP o he hc b h3 hlink (fun _ z => z) hv hde (k0 hP hD hS hl)
          · have hlink := va_Nw.use (A := args) rfl (hN _ (List.mem_filter.mpr ⟨gn_fw_in _ (of_decide_eq_true h1), rfl⟩))
            exact va_getN (D := D) hx hb hts (gn_lays_of hc) hown hK hP o he hc b h3 hlink (fun _ z => z) hv hde (k0 hP hD hS hl)
      · cases h
    | putfield i =>
      simp only [Bool.and_eq_true] at hok
      obtain ⟨⟨⟨⟨h0, h1⟩, h2⟩, h3⟩, h4⟩ := hok
      have hnx := Nat.eq_of_beq_eq_true h0
      subst hnx
      rw [Nat.add_sub_cancel_left] at hde
      have h2 : a < 13 := Nat.le_of_ble_eq_true h2
      have h3 : b < (gn_cls.getD a ("", gn_T0, 0)).2.2 := Nat.le_of_ble_eq_true h3
      have h4 : (gn_Tf a b).2.2.2 = false := by simpa using h4
      obtain ⟨C, N, hc, hNe⟩ := gn_cls_at h2
      rw [← hNe] at h3
      dsimp only at h
      split at h
      · rename_i x o r
        cases hf : gn_isS 0 o a b with
        | false => rw [hf] at h; cases h
        | true =>
          rw [hf] at h
          cases h
          obtain ⟨fs, g1, g2⟩ := gn_isS_spec hf
          have ho := gn_ly_lt' g1 (by omega)
          have he : (gn_ws cI cZ ad σ)[o]? = some (ad o, .inr (a, fs.mapIdx (fun k t => gn_fv ad σ o k t))) := by rw [gn_ws_get ho, gn_ce_obj g1]
          have hlen : b < (fs.mapIdx (fun k t => gn_fv ad σ o k t)).length := by rw [List.length_mapIdx]; exact (List.getElem?_eq_some_iff.mp g2).1
          have hty := (gn_ty_of g1 h2 g2).1 rfl
          have hd := gn_cls_ok a h2 _ _ _ hc b h3
          rw [hty] at hd
          have hset : (gn_ws cI cZ ad σ).set o (ad o, .inr (a, (fs.mapIdx (fun k t => gn_fv ad σ o k t)).set b (.int x))) = gn_ws cI cZ ad (gn_up σ o b x) := gn_ws_set ho (by rw [gn_ce_put g1 g2]; simp [gn_fv, gn_up_eq, upd]) (fun o' h' => gn_ce_ne (gn_up_ne h'))
          rw [hoc] at hown
          rw [Bool.or_eq_true] at h1
          rcases h1 with h1 | h1
          · have hlink := hts _ (gn_tin (gn_fw_in _ (of_decide_eq_true h1)) rfl)
            exact va_put (D := D) (v := .int x) hx hb hts (gn_lays_of hc) _ (gn_cls_ok a h2 _ _ _ hc) (gn_cls_nm a h2 _ _ _ hc) hown hK hP hD hS o he hc b h3 hlink (fun _ z => z) h4 hd rfl rfl hlen hde (fun H1 locs1 p1 p2 p3 => kk H1 locs1 ls (hset ▸ p1) (hset ▸ p2) p3 hl)
          · have hlink := va_Nw.use (A := args) rfl (hN _ (List.mem_filter.mpr ⟨gn_fw_in _ (of_decide_eq_true h1), rfl⟩))
            exact va_putN (D := D) (v := .int x) hx hb hts (gn_lays_of hc) _ (gn_cls_ok a h2 _ _ _ hc) (gn_cls_nm a h2 _ _ _ hc) hown hK hP hD hS o he hc b h3 hlink (fun _ z => z) h4 hd rfl rfl hlen hde (fun H1 locs1 p1 p2 p3 => kk H1 locs1 ls (hset ▸ p1) (hset ▸ p2) p3 hl)
      · cases h
    | invokestatic i =>
      simp only [Bool.and_eq_true] at hok
      obtain ⟨h0, h1⟩ := hok
      have hnx := Nat.eq_of_beq_eq_true h0
      subst hnx
      rw [Nat.add_sub_cancel_left] at hde
      cases d with
      | zero => cases h
      | succ d' =>
        dsimp only at h
        split at h
        · rename_i y2 x r
          cases hcs : gn_cs r with
          | false => rw [hcs] at h; cases h
          | true =>
            rw [hcs] at h
            dsimp only [cond] at h
            have hcat := gn_cs_map ad hcs
            have hlo : (((r.map (gn_cz ad))).map fun v => v.category).sum + 13 ≤ (gn_rm (d' + 1)).locals := by show _ ≤ 64 * (d' + 1); omega
            simp only [Bool.or_eq_true, Bool.and_eq_true, decide_eq_true_eq] at h1
            rw [hoc] at hown
            by_cases v2 : v = 2
            · rw [if_pos v2] at h
              cases h
              have hlink : (Cond.methodLink (gn_nm oc) i Lib.Math.max.name).before args s = true := by
                rcases h1 with ((h1 | h1) | h1) | h1
                · exact absurd (h1.1.1.symm.trans v2) (by decide)
                · exact absurd (h1.1.symm.trans v2) (by decide)
                · exact hts _ (gn_tin (gn_sw_in _ h1.2) rfl)
                · exact absurd (h1.1.symm.trans v2) (by decide)
              exact va_mmax hx hb (by rw [hl.1]) hown hlink (hts _ (gn_tin gn_maxs rfl)) (hts _ (gn_tin gn_mathi rfl)) (hts _ (gn_tin gn_maxc rfl)) (Nat.succ_le_succ (Nat.zero_le _)) hlo (Nat.zero_le _) (Nat.zero_le _) hde (k0 hP hD hS hl)
            · rw [if_neg v2] at h
              by_cases v3 : v = 3
              · rw [if_pos v3] at h
                cases h
                have hlink : (Cond.methodLink (gn_nm oc) i Lib.Math.min.name).before args s = true := by
                  rcases h1 with ((h1 | h1) | h1) | h1
                  · exact absurd (h1.1.1.symm.trans v3) (by decide)
                  · exact absurd (h1.1.symm.trans v3) (by decide)
                  · exact absurd (h1.1.symm.trans v3) (by decide)
                  · exact hts _ (gn_tin (gn_sw_in _ h1.2) rfl)
                exact va_mmin hx hb (by rw [hl.1]) hown hlink (hts _ (gn_tin gn_mins rfl)) (hts _ (gn_tin gn_mathi rfl)) (hts _ (gn_tin gn_minc rfl)) (Nat.succ_le_succ (Nat.zero_le _)) hlo (Nat.zero_le _) (Nat.zero_le _) hde (k0 hP hD hS hl)
              · rw [if_neg v3] at h
                cases h
        · cases h
    | _ => cases h
