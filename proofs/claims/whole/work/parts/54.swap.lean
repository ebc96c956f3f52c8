/-! the two tables' places; the start -/
def gl_swf (t : Nat) : Nat := bif Nat.ble 3 t then sw (t - 3) + 3 else t
noncomputable def gl_ok1 (o : Nat) : Bool := match gn_lay o with
  | .inl x => (match gn_lay (sw o) with
    | .inl y => decide (x = y)
    | .inr _ => false)
  | .inr (q, fs) => (match gn_lay (sw o) with
    | .inl _ => false
    | .inr (q', fs') => Nat.beq q q' && decide (fs' = fs.map gl_swf) && fs.all (fun t => !Nat.beq t 1))
set_option maxRecDepth 100000 in
theorem gl_ok1_all : ∀ o, o < 63 → o ≠ 0 → gl_ok1 o = true := by decide +kernel
theorem sw_lt : ∀ o, o < 63 → sw o < 63 := by decide +kernel
theorem sw_sw (o : Nat) : sw (sw o) = o := by
  unfold sw
  repeat' split
  all_goals omega
theorem gl_swo {σ : gn_Mem} {o : Nat} (h : o ≠ 0) : swp σ o = σ (sw o) := by
  funext k
  unfold swp
  rw [if_neg (fun q => h q.1)]
theorem gl_dyn {σ : gn_Mem} {k : Nat} (hk : k = 11 ∨ k = 12) : sw (gn_dyn (swp σ 0 k)) = gn_dyn (σ 0 k) := by
  have h : swp σ 0 k = if σ 0 k = 0 then 1 else 0 := by
    unfold swp
    rw [if_pos ⟨rfl, hk⟩]
  rw [h]
  by_cases q : σ 0 k = 0
  · rw [if_pos q, q]; decide
  · rw [if_neg q]
    unfold gn_dyn
    rw [if_neg q]
    decide
theorem gl_ce0 {cI cZ : ClassId} {ad : Nat → Nat} {σ : gn_Mem} : gn_ce cI cZ ad σ 0 = .inr (11, [.ref (ad 1), .ref (ad 3), .ref (ad 5), .ref (ad 7), .ref (ad 9), .ref (ad 11), .ref (ad 12), .ref (ad 13), .ref (ad 19), .ref (ad 22), .ref (ad 25), .ref (ad (gn_dyn (σ 0 11))), .ref (ad (gn_dyn (σ 0 12)))]) := rfl
theorem gl_ce_sw {cI cZ : ClassId} {ad : Nat → Nat} {σ : gn_Mem} {o : Nat} (ho : o < 63) : gn_ce cI cZ (fun o => ad (sw o)) (swp σ) o = gn_ce cI cZ ad σ (sw o) := by
  by_cases h0 : o = 0
  · subst h0
    have e1 : sw (gn_dyn (swp σ 0 11)) = gn_dyn (σ 0 11) := gl_dyn (Or.inl rfl)
    have e2 : sw (gn_dyn (swp σ 0 12)) = gn_dyn (σ 0 12) := gl_dyn (Or.inr rfl)
    show gn_ce cI cZ (fun o => ad (sw o)) (swp σ) 0 = gn_ce cI cZ ad σ 0
    rw [gl_ce0, gl_ce0, e1, e2]
    rfl
  · have h := gl_ok1_all o ho h0
    unfold gl_ok1 at h
    unfold gn_ce
    rw [gn_ly_lay ho, gn_ly_lay (sw_lt o ho)]
    cases h1 : gn_lay o with
    | inl x =>
      rw [h1] at h
      dsimp only at h
      cases h2 : gn_lay (sw o) with
      | inl y =>
        rw [h2] at h
        have h3 := of_decide_eq_true h
        subst h3
        obtain ⟨z, n⟩ := x
        dsimp only
        rw [gl_swo h0]
      | inr y => rw [h2] at h; cases h
    | inr x =>
      obtain ⟨q, fs⟩ := x
      rw [h1] at h
      dsimp only at h
      cases h2 : gn_lay (sw o) with
      | inl y => rw [h2] at h; cases h
      | inr y =>
        obtain ⟨q', fs'⟩ := y
        rw [h2] at h
        simp only [Bool.and_eq_true] at h
        obtain ⟨⟨ha, hb⟩, hc⟩ := h
        have ha := Nat.eq_of_beq_eq_true ha
        have hb := of_decide_eq_true hb
        subst ha
        subst hb
        have key : (fs.mapIdx (fun k t => gn_fv (fun o => ad (sw o)) (swp σ) o k t)) = ((fs.map gl_swf).mapIdx (fun k t => gn_fv ad σ (sw o) k t)) := by
          apply List.ext_getElem?
          intro k
          rw [List.getElem?_mapIdx, List.getElem?_mapIdx, List.getElem?_map]
          cases hk : fs[k]? with
          | none => rfl
          | some t =>
            have ht : ¬ t = 1 := fun e => by
              have h9 := List.all_eq_true.mp hc t (List.mem_of_getElem? hk)
              rw [e] at h9
              cases h9
            show some (gn_fv (fun o => ad (sw o)) (swp σ) o k t) = some (gn_fv ad σ (sw o) k (gl_swf t))
            match t, ht with
            | 0, _ => show some (Value.int (swp σ o k)) = some (Value.int (σ (sw o) k)); rw [gl_swo h0]
            | 1, h => exact absurd rfl h
            | 2, _ => show some (Value.int (swp σ o k)) = some (Value.int (σ (sw o) k)); rw [gl_swo h0]
            | r + 3, _ =>
              have e3 : gl_swf (r + 3) = sw r + 3 := by
                unfold gl_swf
                rw [show Nat.ble 3 (r + 3) = true from Nat.ble_eq.mpr (by omega), Nat.add_sub_cancel]
                rfl
              rw [e3]
              rfl
        dsimp only
        rw [key]
theorem gl_sw_at {cI cZ : ClassId} {ad : Nat → Nat} {σ : gn_Mem} : ∀ (k : Nat) (q : Nat × va_E), (gn_ws cI cZ (fun o => ad (sw o)) (swp σ))[k]? = some q → (gn_ws cI cZ ad σ)[sw k]? = some q := by
  intro k q hq
  have hk : k < 63 := by
    have h := (List.getElem?_eq_some_iff.mp hq).1
    simpa [gn_ws] using h
  rw [gn_ws_get hk] at hq
  rw [gn_ws_get (sw_lt k hk), ← gl_ce_sw hk]
  exact hq
theorem gl_P_sw {D : va_G} {cI cZ : ClassId} {ad : Nat → Nat} {σ : gn_Mem} {H : Heap} (hP : va_P D gn_cls (gn_ws cI cZ ad σ) H) : va_P D gn_cls (gn_ws cI cZ (fun o => ad (sw o)) (swp σ)) H := hP.by sw gl_sw_at
theorem gl_D_sw {A : Nat → Prop} {cI cZ : ClassId} {ad : Nat → Nat} {σ : gn_Mem} (hD : va_D A (gn_ws cI cZ ad σ)) : va_D A (gn_ws cI cZ (fun o => ad (sw o)) (swp σ)) := hD.by sw gl_sw_at (fun i j _ _ e => by rw [← sw_sw i, ← sw_sw j, e])
noncomputable def gl_ok2 (o : Nat) : Bool := match gn_lay o with
  | .inl _ => true
  | .inr (_, fs) => fs.all (fun t => Nat.blt t 47)
set_option maxRecDepth 100000 in
theorem gl_ok2_all : ∀ o, o < 44 → gl_ok2 o = true := by decide +kernel
theorem gl_ce_u {cI cZ : ClassId} {ad u : Nat → Nat} {σ : gn_Mem} (hu : ∀ r, r < 44 → ad r = u r) {o : Nat} (ho : o < 44) : gn_ce cI cZ ad σ o = gn_ce cI cZ u σ o := by
  have h := gl_ok2_all o ho
  unfold gl_ok2 at h
  unfold gn_ce
  rw [gn_ly_lay (show o < 63 by omega)]
  cases h1 : gn_lay o with
  | inl x => rfl
  | inr x =>
    obtain ⟨q, fs⟩ := x
    rw [h1] at h
    dsimp only at h
    have key : (fs.mapIdx (fun k t => gn_fv ad σ o k t)) = (fs.mapIdx (fun k t => gn_fv u σ o k t)) := by
      apply List.ext_getElem?
      intro k
      rw [List.getElem?_mapIdx, List.getElem?_mapIdx]
      cases hk : fs[k]? with
      | none => rfl
      | some t =>
        have ht : t < 47 := Nat.le_of_ble_eq_true (List.all_eq_true.mp h t (List.mem_of_getElem? hk))
        show some (gn_fv ad σ o k t) = some (gn_fv u σ o k t)
        match t, ht with
        | 0, _ => rfl
        | 1, _ =>
          show some (Value.ref (ad (gn_dyn (σ o k)))) = some (Value.ref (u (gn_dyn (σ o k))))
          rw [hu _ (by unfold gn_dyn; split <;> omega)]
        | 2, _ => rfl
        | r + 3, h9 =>
          show some (Value.ref (ad r)) = some (Value.ref (u r))
          rw [hu r (by omega)]
    dsimp only
    rw [key]
theorem gl_ce44 {cI cZ : ClassId} {ad : Nat → Nat} : gn_ce cI cZ ad gS0 44 = .inr (12, [.ref (ad 45), .ref (ad 46), .ref (ad 47), .ref (ad 48), .ref (ad 49), .ref (ad 50), .int 0, .int 0, .int 0, .int 0, .int 0, .int 0, .ref (ad 51), .int 0, .int (-1), .ref (ad 52), .ref (ad 53), .int 0, .ref (ad 54), .ref (ad 55), .int 0, .int 0, .int 0, .int 0, .int 0, .int 0, .int 0, .int 0, .ref (ad 56), .ref (ad 57), .ref (ad 58), .ref (ad 59), .ref (ad 60), .ref (ad 61), .ref (ad 62)]) := by
  rw [gn_ce_obj (o := 44) (q := 12) (fs := [48, 49, 50, 51, 52, 53, 2, 0, 0, 0, 0, 0, 54, 0, 0, 55, 56, 0, 57, 58, 0, 0, 0, 0, 2, 0, 0, 0, 59, 60, 61, 62, 63, 64, 65]) rfl]
  simp only [List.mapIdx_cons, List.mapIdx_nil]
  rfl
theorem gl_map19 {α : Type} (F : Nat → α) : (List.range 19).map F = F 0 :: (List.range 18).map (fun i => F (i + 1)) := rfl
set_option maxRecDepth 100000 in
theorem gl_w12 (cI cZ : ClassId) (v : Nat → Nat) (ad : Nat → Nat) (h : ∀ i, ad (44 + i) = v i) : (List.range 19).map (fun i => (ad (44 + i), gn_ce cI cZ ad gS0 (44 + i))) = gc_w12 cI cZ v := by
  have e : gc_w12 cI cZ v = gc_w12 cI cZ (fun i => ad (44 + i)) := by rw [show (fun i => ad (44 + i)) = v from funext h]
  rw [e, gl_map19]
  show (ad 44, gn_ce cI cZ ad gS0 44) :: _ = _
  rw [gl_ce44]
  rfl
theorem gl_ws0 (cI cZ : ClassId) (u v : Nat → Nat) : gn_ws cI cZ (fun o => bif Nat.blt o 44 then u o else v (o - 44)) gS0 = gc_w11 cI cZ u ++ gc_w12 cI cZ v := by
  have e : List.range gn_NO = List.range 44 ++ (List.range 19).map (fun i => 44 + i) := by decide +kernel
  unfold gn_ws gc_w11
  rw [e, List.map_append, List.map_map]
  have hu : ∀ r, r < 44 → (fun o => bif Nat.blt o 44 then u o else v (o - 44)) r = u r := fun r hr => by
    show (bif Nat.blt r 44 then u r else v (r - 44)) = u r
    rw [show Nat.blt r 44 = true from Nat.ble_eq.mpr hr]
    rfl
  refine congr (congrArg _ ?_) ?_
  · refine List.map_congr_left (fun o ho => ?_)
    have ho : o < 44 := List.mem_range.mp ho
    rw [gl_ce_u hu ho, hu o ho]
  · refine gl_w12 cI cZ v (fun o => bif Nat.blt o 44 then u o else v (o - 44)) (fun i => ?_)
    show (bif Nat.blt (44 + i) 44 then u (44 + i) else v (44 + i - 44)) = v i
    rw [show Nat.blt (44 + i) 44 = false by cases h : Nat.blt (44 + i) 44 with | false => rfl | true => exact absurd (Nat.le_of_ble_eq_true h) (by omega), Nat.add_sub_cancel_left]
    rfl
theorem gl_inv : Inv gS0 := by
  have hW : gW (fun _ _ _ => 0) := ⟨by show 0 ≤ 6; omega, by show 0 ≤ 4; omega, by show 0 ≤ 1; omega, by show 0 < 256; omega, fun g (hg : g < 0) => by omega, fun g k (hg : g < 0) => by omega, fun g (hg : g < 0) => by omega⟩
  refine ⟨fun _ _ _ => 0, aZero, 0, 0, fun _ => aZero, fun _ => false, fun _ => aZero, 0, fun _ => 0, fun _ => false, 0, fun _ => 0, fun _ => 0, 0, fun _ => 0, ⟨if_pos rfl, if_neg (by decide), ⟨hW, by decide, by decide, by decide, by decide, fun g (hg : g < 0) => by omega, fun g k (hg : g < 0) => by omega, fun g (hg : g < 0) => by omega⟩, ⟨hW, by decide, by decide, by decide, by decide, fun g (hg : g < 0) => by omega, fun g k (hg : g < 0) => by omega, fun g (hg : g < 0) => by omega⟩⟩, ⟨fun j hj => ?_, fun j hj => ?_, ⟨fun g (hg : g < 0) => by omega, fun g _ hg => ?_, fun h hh => ?_, by decide, by decide, by decide, by decide, by decide, by decide⟩⟩, ⟨rfl, by decide⟩, ⟨by omega, by omega, by decide, by decide, by decide, fun i hi => by omega⟩, ⟨by decide, by decide, by decide, fun i _ hz => by cases hz⟩, ⟨by omega, by decide, by decide, fun i hi => by omega⟩, ⟨by omega, by decide, by decide, fun i hi => by omega⟩, ⟨by omega, by decide, by decide, fun i hi => by omega⟩, rfl⟩
  · show (0 : Int32) = _
    unfold vv aZero
    by_cases e : 6 ≤ rho j ∧ rho j < 18
    · rw [if_pos e, if_pos e]; rfl
    · rw [if_neg e, if_neg e]; rfl
  · show (0 : Int32) = _
    unfold vv aZero
    by_cases e : 6 ≤ j ∧ j < 18
    · rw [if_pos e, if_pos e]; rfl
    · rw [if_neg e, if_neg e]; rfl
  · refine ⟨?_, ?_, ?_⟩ <;> (unfold aZero; split <;> omega)
  · unfold aZero
    split <;> omega
