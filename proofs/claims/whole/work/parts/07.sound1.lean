/-! soundness of the pure machine, one: worlds, locals, words -/
def gn_cz (ad : Nat → Nat) : Value → Value
  | .ref o => .ref (ad o)
  | v => v
def gn_fv (ad : Nat → Nat) (σ : gn_Mem) (o k : Nat) : Nat → Value
  | 0 => .int (σ o k)
  | 1 => .ref (ad (gn_dyn (σ o k)))
  | 2 => .int (σ o k)
  | r + 3 => .ref (ad r)
noncomputable def gn_ce (cI cZ : ClassId) (ad : Nat → Nat) (σ : gn_Mem) (o : Nat) : va_E := match gn_ly o with
  | .inl (z, n) => .inl (bif z then cZ else cI, n, .inl (σ o))
  | .inr (q, fs) => .inr (q, fs.mapIdx (fun k t => gn_fv ad σ o k t))
noncomputable def gn_ws (cI cZ : ClassId) (ad : Nat → Nat) (σ : gn_Mem) : va_W := (List.range gn_NO).map (fun o => (ad o, gn_ce cI cZ ad σ o))
theorem gn_ws_get {cI cZ : ClassId} {ad : Nat → Nat} {σ : gn_Mem} {o : Nat} (h : o < gn_NO) : (gn_ws cI cZ ad σ)[o]? = some (ad o, gn_ce cI cZ ad σ o) := by
  simp only [gn_ws, List.getElem?_map, List.getElem?_range h, Option.map_some]
theorem gn_ws_set {cI cZ : ClassId} {ad : Nat → Nat} {σ σ' : gn_Mem} {o : Nat} {e : va_E} (h : o < gn_NO) (he : gn_ce cI cZ ad σ' o = e) (ho : ∀ o', o' ≠ o → gn_ce cI cZ ad σ' o' = gn_ce cI cZ ad σ o') : (gn_ws cI cZ ad σ).set o (ad o, e) = gn_ws cI cZ ad σ' := by
  apply List.ext_getElem?
  intro i
  rw [List.getElem?_set]
  by_cases hi : i < gn_NO
  · by_cases e1 : o = i
    · subst e1
      rw [if_pos rfl, gn_ws_get h, he]
      simp [gn_ws, h]
    · rw [if_neg e1, gn_ws_get hi, gn_ws_get hi, ho i (fun q => e1 q.symm)]
  · have n1 : (gn_ws cI cZ ad σ)[i]? = none := by simp [gn_ws]; omega
    have n2 : (gn_ws cI cZ ad σ')[i]? = none := by simp [gn_ws]; omega
    rw [n2]
    by_cases e1 : o = i
    · exact absurd (e1 ▸ h) hi
    · rw [if_neg e1, n1]
theorem gn_ly_lt {o : Nat} {x : Bool × Nat} (h : gn_ly o = .inl x) : o < gn_NO := by
  unfold gn_ly at h
  by_cases hb : Nat.blt o gn_NO = true
  · exact Nat.lt_of_lt_of_eq (Nat.le_of_ble_eq_true hb) rfl
  · rw [Bool.not_eq_true] at hb
    rw [hb] at h
    cases h
theorem gn_ly_lt' {o q : Nat} {fs : List Nat} (h : gn_ly o = .inr (q, fs)) (hq : q < 99) : o < gn_NO := by
  unfold gn_ly at h
  by_cases hb : Nat.blt o gn_NO = true
  · exact Nat.lt_of_lt_of_eq (Nat.le_of_ble_eq_true hb) rfl
  · rw [Bool.not_eq_true] at hb
    rw [hb] at h
    cases h
    omega
/-- another object's cell doesn't change -/
theorem gn_ce_ne {cI cZ : ClassId} {ad : Nat → Nat} {σ σ' : gn_Mem} {o' : Nat} (h : σ' o' = σ o') : gn_ce cI cZ ad σ' o' = gn_ce cI cZ ad σ o' := by
  unfold gn_ce
  split
  · rw [h]
  · congr 2
    apply List.ext_getElem?
    intro i
    simp only [List.getElem?_mapIdx]
    rename_i q fs hl
    cases fs[i]? with
    | none => rfl
    | some t =>
      simp only [Option.map_some]
      rcases t with _ | _ | _ | t <;> simp [gn_fv, h]
theorem gn_up_ne {σ : gn_Mem} {o k o' : Nat} {x : Int32} (h : o' ≠ o) : gn_up σ o k x o' = σ o' := if_neg h
theorem gn_up_eq {σ : gn_Mem} {o k : Nat} {x : Int32} : gn_up σ o k x o = upd (σ o) k x := if_pos rfl
theorem gn_upF_ne {σ : gn_Mem} {o o' : Nat} {f : Nat → Int32} (h : o' ≠ o) : gn_upF σ o f o' = σ o' := if_neg h
theorem gn_upF_eq {σ : gn_Mem} {o : Nat} {f : Nat → Int32} : gn_upF σ o f o = f := if_pos rfl
theorem gn_ce_arr {cI cZ : ClassId} {ad : Nat → Nat} {σ : gn_Mem} {o n : Nat} {z : Bool} (h : gn_ly o = .inl (z, n)) : gn_ce cI cZ ad σ o = .inl (bif z then cZ else cI, n, .inl (σ o)) := by
  unfold gn_ce
  rw [h]
theorem gn_ce_obj {cI cZ : ClassId} {ad : Nat → Nat} {σ : gn_Mem} {o q : Nat} {fs : List Nat} (h : gn_ly o = .inr (q, fs)) : gn_ce cI cZ ad σ o = .inr (q, fs.mapIdx (fun k t => gn_fv ad σ o k t)) := by
  unfold gn_ce
  rw [h]
/-- a field's store -/
theorem gn_ce_put {cI cZ : ClassId} {ad : Nat → Nat} {σ : gn_Mem} {o q k t : Nat} {fs : List Nat} {x : Int32} (h : gn_ly o = .inr (q, fs)) (ht : fs[k]? = some t) : gn_ce cI cZ ad (gn_up σ o k x) o = .inr (q, (fs.mapIdx (fun k t => gn_fv ad σ o k t)).set k (gn_fv ad (gn_up σ o k x) o k t)) := by
  rw [gn_ce_obj h]
  congr 2
  apply List.ext_getElem?
  intro i
  rw [List.getElem?_set, List.getElem?_mapIdx, List.getElem?_mapIdx]
  by_cases hi : k = i
  · subst hi
    rw [if_pos rfl, ht, if_pos (by rw [List.length_mapIdx]; exact (List.getElem?_eq_some_iff.mp ht).1)]
    rfl
  · rw [if_neg hi]
    cases fs[i]? with
    | none => rfl
    | some u =>
      simp only [Option.map_some]
      have e : gn_up σ o k x o i = σ o i := by rw [gn_up_eq]; exact if_neg (fun z => hi z.symm)
      rcases u with _ | _ | _ | u <;> simp [gn_fv, e]
theorem gn_dec : ∀ {l : List Nat}, True := fun {_} => trivial
-- the locals
def gn_LV (ad : Nat → Nat) (ls : Array Slot) (nL : Nat) (lo : List Value) : Prop := ls.size = nL ∧ lv_wf ls ∧ ∀ i : Nat, gn_at lo i ≠ .null → ls[i]? = some (.val (gn_cz ad (gn_at lo i)))
def gn_lvs (ad : Nat → Nat) (lo : List Value) : List (Nat × Value) := (List.range lo.length).filterMap (fun i => if gn_at lo i = .null then none else some (i, gn_cz ad (gn_at lo i)))
theorem gn_at_len : ∀ (lo : List Value) (i : Nat), gn_at lo i ≠ .null → i < lo.length
  | [], i, h => absurd rfl h
  | _ :: _, 0, _ => Nat.succ_pos _
  | _ :: xs, k + 1, h => Nat.succ_lt_succ (gn_at_len xs k h)
theorem gn_lvs_in {ad : Nat → Nat} {lo : List Value} {i : Nat} (h : gn_at lo i ≠ .null) : (i, gn_cz ad (gn_at lo i)) ∈ gn_lvs ad lo := by
  refine List.mem_filterMap.mpr ⟨i, List.mem_range.mpr (gn_at_len lo i h), ?_⟩
  rw [if_neg h]
theorem gn_LV.has {ad : Nat → Nat} {ls : Array Slot} {nL : Nat} {lo : List Value} (h : gn_LV ad ls nL lo) : lv_has ls nL (gn_lvs ad lo) := by
  refine ⟨h.1, h.2.1, fun q hq => ?_⟩
  obtain ⟨i, -, hi⟩ := List.mem_filterMap.mp hq
  by_cases hn : gn_at lo i = .null
  · rw [if_pos hn] at hi; cases hi
  · rw [if_neg hn] at hi; cases hi
    exact h.2.2 i hn
theorem gn_at_set : ∀ (lo : List Value) (i j : Nat) (v : Value), gn_at (gn_set lo i v) j = if j = i then v else gn_at lo j
  | [], 0, 0, v => rfl
  | [], 0, j + 1, v => by cases j <;> simp [gn_set, gn_at]
  | [], i + 1, 0, v => by simp [gn_set, gn_at]
  | [], i + 1, j + 1, v => by
    have h := gn_at_set [] i j v
    simp only [gn_set, gn_at, Nat.succ_eq_add_one, Nat.add_right_cancel_iff] at h ⊢
    exact h
  | x :: xs, 0, 0, v => rfl
  | x :: xs, 0, j + 1, v => by simp [gn_set, gn_at]
  | x :: xs, i + 1, 0, v => by simp [gn_set, gn_at]
  | x :: xs, i + 1, j + 1, v => by
    have h := gn_at_set xs i j v
    simp only [gn_set, gn_at, Nat.add_right_cancel_iff] at h ⊢
    exact h
theorem gn_cz_cat (ad : Nat → Nat) (v : Value) : (gn_cz ad v).category = v.category := by cases v <;> rfl
theorem gn_isL_cat {v : Value} (h : gn_isL v = false) : v.category = 1 := by cases v <;> first | rfl | cases h
theorem gn_LV.set1 {ad : Nat → Nat} {ls' : Array Slot} {nL i : Nat} {lo : List Value} {v : Value} (hok : gn_okS lo i = true) (h' : lv_has ls' nL ((i, gn_cz ad v) :: (gn_lvs ad lo).filter (fun q => !(q.1 == i) && !(q.1 + 1 == i && q.2.category == 2)))) : gn_LV ad ls' nL (gn_set lo i v) := by
  refine ⟨h'.1, h'.2.1, fun j hj => ?_⟩
  rw [gn_at_set] at hj ⊢
  by_cases e : j = i
  · subst e
    rw [if_pos rfl]
    exact h'.2.2 _ List.mem_cons_self
  · rw [if_neg e] at hj ⊢
    refine h'.2.2 (j, _) (List.mem_cons_of_mem _ (List.mem_filter.mpr ⟨gn_lvs_in hj, ?_⟩))
    have e1 : (j == i) = false := by simpa using e
    show (!(j == i) && !(j + 1 == i && (gn_cz ad (gn_at lo j)).category == 2)) = true
    by_cases e2 : j + 1 = i
    · subst e2
      have hL : gn_isL (gn_at lo j) = false := by simpa [gn_okS] using hok
      rw [gn_cz_cat, gn_isL_cat hL, e1]
      simp
    · have e3 : (j + 1 == i) = false := by simpa using e2
      rw [e1, e3]
      rfl
theorem gn_LV.set2 {ad : Nat → Nat} {ls' : Array Slot} {nL i : Nat} {lo : List Value} {v : Value} (hok : gn_okS lo i = true) (h' : lv_has ls' nL ((i, gn_cz ad v) :: (gn_lvs ad lo).filter (fun q => !(q.1 == i) && (!(q.1 == i + 1) && !(q.1 + 1 == i && q.2.category == 2))))) : gn_LV ad ls' nL (gn_set (gn_set lo i v) (i + 1) .null) := by
  refine ⟨h'.1, h'.2.1, fun j hj => ?_⟩
  rw [gn_at_set, gn_at_set] at hj ⊢
  by_cases e0 : j = i + 1
  · rw [if_pos e0] at hj; exact absurd rfl hj
  rw [if_neg e0] at hj ⊢
  by_cases e : j = i
  · subst e
    rw [if_pos rfl]
    exact h'.2.2 _ List.mem_cons_self
  · rw [if_neg e] at hj ⊢
    refine h'.2.2 (j, _) (List.mem_cons_of_mem _ (List.mem_filter.mpr ⟨gn_lvs_in hj, ?_⟩))
    have e1 : (j == i) = false := by simpa using e
    have e4 : (j == i + 1) = false := by simpa using e0
    show (!(j == i) && (!(j == i + 1) && !(j + 1 == i && (gn_cz ad (gn_at lo j)).category == 2))) = true
    by_cases e2 : j + 1 = i
    · subst e2
      have hL : gn_isL (gn_at lo j) = false := by simpa [gn_okS] using hok
      rw [gn_cz_cat, gn_isL_cat hL, e1, e4]
      simp
    · have e3 : (j + 1 == i) = false := by simpa using e2
      rw [e1, e3, e4]
      rfl
theorem gn_LV.at {ad : Nat → Nat} {ls : Array Slot} {nL i : Nat} {lo : List Value} (h : gn_LV ad ls nL lo) {v : Value} (hv : gn_at lo i = v) (hn : v ≠ .null) : ls[i]? = some (.val (gn_cz ad v)) := by
  subst hv
  exact h.2.2 i hn
theorem gn_args_at : ∀ (vs : List Value) (k : Nat), (∀ v ∈ vs, gn_isL v = false) → ∀ (ad : Nat → Nat) (i : Nat), gn_at vs i ≠ .null → (k + i, gn_cz ad (gn_at vs i)) ∈ lv_args k (vs.map (gn_cz ad))
  | [], _, _, _, i, h => absurd rfl h
  | v :: vs, k, hv, ad, 0, _ => by
    have hc : (gn_cz ad v).category = 1 := by rw [gn_cz_cat]; exact gn_isL_cat (hv v List.mem_cons_self)
    simp [lv_args, gn_at]
  | v :: vs, k, hv, ad, i + 1, h => by
    have hc : (gn_cz ad v).category = 1 := by rw [gn_cz_cat]; exact gn_isL_cat (hv v List.mem_cons_self)
    have h1 := gn_args_at vs (k + 1) (fun w hw => hv w (List.mem_cons_of_mem _ hw)) ad i h
    have e : k + 1 + i = k + (i + 1) := by omega
    rw [e] at h1
    simp only [List.map_cons, lv_args, hc, gn_at]
    exact List.mem_cons_of_mem _ h1
theorem gn_sl_len : ∀ (vs : List Value), (∀ v ∈ vs, gn_isL v = false) → ∀ ad : Nat → Nat, (lg_sl (vs.map (gn_cz ad))).length = vs.length
  | [], _, _ => rfl
  | v :: vs, hv, ad => by
    have hc : (gn_cz ad v).category = 1 := by rw [gn_cz_cat]; exact gn_isL_cat (hv v List.mem_cons_self)
    have h1 := gn_sl_len vs (fun w hw => hv w (List.mem_cons_of_mem _ hw)) ad
    simp only [lg_sl, List.map_cons, List.flatMap_cons, List.length_append] at h1 ⊢
    rw [h1, hc]
    simp
    omega
theorem gn_pop_spec : ∀ (n : Nat) (acc st as r : List Value), gn_pop n acc st = some (as, r) → ∃ vs, as = vs ++ acc ∧ st = vs.reverse ++ r ∧ vs.length = n ∧ ∀ v ∈ vs, gn_isL v = false
  | 0, acc, st, as, r, h => by
    simp only [gn_pop, Option.some.injEq, Prod.mk.injEq] at h
    exact ⟨[], by simp [h.1], by simp [h.2], rfl, fun _ h => absurd h List.not_mem_nil⟩
  | n + 1, acc, [], as, r, h => by cases h
  | n + 1, acc, v :: st, as, r, h => by
    simp only [gn_pop] at h
    cases hv : gn_isL v with
    | true => rw [hv] at h; cases h
    | false =>
      rw [hv] at h
      obtain ⟨vs, h1, h2, h3, h4⟩ := gn_pop_spec n (v :: acc) st as r h
      refine ⟨vs ++ [v], by simp [h1], by simp [h2], by simp [h3], fun w hw => ?_⟩
      rcases List.mem_append.mp hw with q | q
      · exact h4 w q
      · rw [List.mem_singleton.mp q]; exact hv
-- the words
def gn_tbl : List Cond := lw_tbl.filter goodWord
def gn_isN : Cond → Bool
  | .fieldLinkNest .. => true
  | .methodLinkNest .. => true
  | _ => false
def gn_nst : List Cond := lw_tbl.filter gn_isN
theorem gn_tin {w : Cond} (h : w ∈ lw_tbl) (hg : goodWord w = true) : w ∈ gn_tbl := List.mem_filter.mpr ⟨h, hg⟩
theorem gn_tbl_good {w : Cond} (h : w ∈ gn_tbl) : (w.onTables && w.keeps) = true ∨ ∃ ty, w = .arrayClass ty := good_of_word (List.mem_filter.mp h).2
theorem gn_nst_warm {w : Cond} (hw : w ∈ gn_nst) {s U : State} (hW : s.WarmedH U.vm) (h : va_Nw w s) : va_Nw w U := by
  have h2 := (List.mem_filter.mp hw).2
  cases w <;> first | exact va_Nw.warmF hW h | exact va_Nw.warmM hW h | cases h2
theorem gn_nst_same {w : Cond} (hw : w ∈ gn_nst) {u U : State} (e : u.vm = U.vm) (h : va_Nw w u) : va_Nw w U := by
  have h2 := (List.mem_filter.mp hw).2
  cases w <;> first | (cases h2; done) | exact va_Nw.same rfl e h
