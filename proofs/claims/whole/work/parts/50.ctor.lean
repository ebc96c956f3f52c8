/-! constructors: what they have in common -/
theorem gc_L {a b : va_W} {k : Nat} {q : Nat × va_E} (h : a[k]? = some q) : (a ++ b)[k]? = some q := by
  rw [List.getElem?_append_left (List.getElem?_eq_some_iff.mp h).1]; exact h
theorem gc_R {a b : va_W} {k : Nat} {q : Nat × va_E} (h : b[k]? = some q) : (a ++ b)[a.length + k]? = some q := by
  rw [List.getElem?_append_right (Nat.le_add_right _ _), Nat.add_sub_cancel_left]; exact h
theorem gc_Pl {D : va_G} {cl : List vw_C} {a b : va_W} {H : Heap} (h : va_P D cl (a ++ b) H) : va_P D cl a H := fun k q hq => h k q (gc_L hq)
theorem gc_Pr {D : va_G} {cl : List vw_C} {a b : va_W} {H : Heap} (h : va_P D cl (a ++ b) H) : va_P D cl b H := fun k q hq => h (a.length + k) q (gc_R hq)
theorem gc_Dl {A : Nat → Prop} {a b : va_W} (h : va_D A (a ++ b)) : va_D A a := ⟨fun i j p q hp hq e => h.1 i j p q (gc_L hp) (gc_L hq) e, fun k q hq => h.2 k q (gc_L hq)⟩
theorem gc_Dr {A : Nat → Prop} {a b : va_W} (h : va_D A (a ++ b)) : va_D A b := ⟨fun i j p q hp hq e => by have := h.1 _ _ p q (gc_R (a := a) hp) (gc_R (a := a) hq) e; omega, fun k q hq => h.2 _ q (gc_R (a := a) hq)⟩
theorem gc_free {A0 : Nat → Prop} {b : va_W} {H0 H : Heap} {locs : List Loc} (hD : va_D A0 b) (hS : va_S A0 H0 H locs) (hA : ∀ q, H0.size ≤ q → A0 q) : ∀ q, va_A b H.size q → A0 q := by
  intro q h
  rcases h with ⟨k, e, h⟩ | h
  · exact hD.2 k (q, e) h
  · exact hA q (Nat.le_trans hS.1 h)
theorem gc_join {A0 : Nat → Prop} {D : va_G} {cl : List vw_C} {a b w1 : va_W} {H H1 : Heap} (hP : va_P D cl (a ++ b) H) (hD : va_D A0 (a ++ b)) (hk : ∀ q : Nat, q < H.size → ¬ va_A b H.size q → H1[q]? = H[q]?) (hF : ∀ q, va_A b H.size q → A0 q) (hP1 : va_P D cl w1 H1) (hD1 : va_D (va_A b H.size) w1) : va_P D cl (a ++ w1) H1 ∧ va_D A0 (a ++ w1) := by
  have apart : ∀ (k : Nat) (q : Nat × va_E), a[k]? = some q → q.1 < H.size ∧ ¬ va_A b H.size q.1 := by
    intro k q hq
    have hl := (gc_Pl hP k q hq).lt
    refine ⟨hl, fun h => ?_⟩
    rcases h with ⟨k2, e, h⟩ | h
    · have h1 := hD.1 k (a.length + k2) q (q.1, e) (gc_L hq) (gc_R h) rfl
      have h2 := (List.getElem?_eq_some_iff.mp hq).1
      omega
    · omega
  exact ⟨va_P.app (fun k q hq => (gc_Pl hP k q hq).kept (hk q.1 (apart k q hq).1 (apart k q hq).2)) hP1, va_D.app (gc_Dl hD) (hD1.weaken (fun k q _ h => hF q.1 h)) (fun i j x y hx hy hxy => (apart i x hx).2 (by rw [hxy]; exact hD1.2 j y hy))⟩
def gc_C (q : Nat) (cc : ByteArray) (D : va_G) (cI cZ : ClassId) (p : Program) (s : State) (m : MethodId) (args : Array Value) (meth : Method) (c : Code) : Prop :=
  p.tables.exec = Jvm.exec ∧ c.code = cc ∧ meth.sig.returnType = none ∧ (∀ w ∈ gn_tbl, w.before args s = true) ∧ s.vm.findClass (gn_nm q) = some m.cls ∧ meth.locks = false ∧ meth.name = "<init>" ∧ c.maxLocals = 1 ∧ va_K D gn_cls [(cI, .int), (cZ, .boolean)] s ∧ ∀ w ∈ gn_nst, va_Nw w s
set_option maxRecDepth 100000 in
theorem gc_arrI : Cond.arrayClass .int ∈ lw_tbl := List.mem_of_getElem? (i := 180) (by decide +kernel)
set_option maxRecDepth 100000 in
theorem gc_arrZ : Cond.arrayClass .boolean ∈ lw_tbl := List.mem_of_getElem? (i := 326) (by decide +kernel)
set_option maxRecDepth 100000 in
theorem gc_oii : Cond.instanceMethod Lib.objectInit ∈ lw_tbl := List.mem_of_getElem? (i := 153) (by decide +kernel)
set_option maxRecDepth 100000 in
theorem gc_oic : Cond.code Lib.objectInit ⟨#[0xb1]⟩ 1 none ∈ lw_tbl := List.mem_of_getElem? (i := 154) (by decide +kernel)
def gc_Pre (D : va_G) (cI cZ : ClassId) (w0 : va_W) (sz : Nat) (U : State) : Prop := U.heap.size = sz ∧ va_P D gn_cls w0 U.heap ∧ va_K D gn_cls [(cI, .int), (cZ, .boolean)] U ∧ va_D (fun _ => True) w0 ∧ ∀ w ∈ gn_nst, va_Nw w U
def gc_Post (D : va_G) (A : Nat → Prop) (Wf : (Nat → Nat) → va_W) (u : Nat → Nat) (t : State) : Prop := va_P D gn_cls (Wf u) t.heap ∧ va_D A (Wf u)
/-- a constructor's contract: of the object at h, a q with the fields fs, it makes the world Wf u, where u 0 is h -/
def gc_Met (l : Launch) (D : va_G) (cI cZ : ClassId) (q : Nat) (fs : List Value) (bytes : ByteArray) (mc ms fr lo : Nat) (Wf : (Nat → Nat) → va_W) : Prop := ∀ h sz : Nat, Met l ⟨gn_nm q, "<init>", "()V"⟩ (.code ⟨gn_nm q, "<init>", "()V"⟩ bytes 1 none :: gn_tbl) { frames := fr, cells := mc, slots := ms, locals := lo } (va_Pc [.ref h] (gc_Pre D cI cZ [(h, .inr (q, fs))] sz)) (va_Qv (fun u : Nat → Nat => u 0 = h) (gc_Post D (va_A [(h, .inr (q, fs))] sz) Wf) (va_A [(h, .inr (q, fs))] sz)) mc ms (va_A [(h, .inr (q, fs))] sz)
theorem gc_blind {D : va_G} {cI cZ : ClassId} {w0 : va_W} {sz : Nat} {av : List Value} : FrameBlind (va_Pc av (gc_Pre D cI cZ w0 sz)) := by
  intro a U g mk h
  obtain ⟨h1, h2, h3, h4, h5, h6⟩ := h
  exact ⟨h1, h2, h3, va_K.moved (u := U) (U := U.calling g mk a) (Vm.Alike.refl U.vm) h4, h5, fun w hw => gn_nst_same hw (u := U) (U := U.calling g mk a) rfl (h6 w hw)⟩
section
variable {l : Launch} {D : va_G} {cI cZ : ClassId} {q : Nat} {cc : ByteArray} {p : Program} {e : Env} {R : Room} {s : State} {m : MethodId} {args : Array Value} {below : List Frame} {meth : Method} {c : Code} {H H0 : Heap} {locs : List Loc} {cells slots pc : Nat} {Q : State → Prop} {ls : Array Slot} {rest : List Value} {ws : va_W} {A : Nat → Prop} {h0 : Nat} {fs : List Value}
theorem gc_newi (C : gc_C q cc D cI cZ p s m args meth c) (hP : va_P D gn_cls ws H) (hD : va_D A ws) (hS : va_S A H0 H locs) (hA : ∀ x, H0.size ≤ x → A x) (N : Nat) (hN : N ≤ 1000) (hcl : cells + 1 ≤ R.cells) (hsl : slots + N ≤ R.slots) (hdg : decode cc pc = .ok (.newarray .int, 2))
    (kk : ∀ (a : Nat) (H1 : Heap), va_P D gn_cls (ws ++ [(a, .inl (cI, N, .inl (fun _ => 0)))]) H1 → va_D A (ws ++ [(a, .inl (cI, N, .inl (fun _ => 0)))]) → va_S A H0 H1 locs → W p l e R s m args below meth c H1 locs (cells + 1) (slots + N) Q (F0 m (pc + 2) ls (.ref a :: rest))) : W p l e R s m args below meth c H locs cells slots Q (F0 m pc ls (.int (nI N) :: rest)) := by
  obtain ⟨hx, hb, hr, hts, hown, hlk, hin, hml, hK, hNw⟩ := C
  refine va_newa (atype := .int) (ty := .int) (a0 := (N, .inl (fun _ => 0))) hx hb (hts (Cond.arrayClass .int) (gn_tin gc_arrI rfl)) rfl hK hP hD hS hA (fun cA => rfl) (nI_pos (by omega)) (nI_clamp (by omega)) (by show N * 4 ≤ 536870912; omega) hcl hsl hdg (fun a cA H1 hK1 p1 p2 p3 => ?_)
  have e : cA = cI := Option.some.inj ((hK1.2 2 (cA, .int) rfl).2.symm.trans (hK.2 0 (cI, .int) rfl).2)
  subst e
  exact kk a H1 p1 p2 p3
theorem gc_newz (C : gc_C q cc D cI cZ p s m args meth c) (hP : va_P D gn_cls ws H) (hD : va_D A ws) (hS : va_S A H0 H locs) (hA : ∀ x, H0.size ≤ x → A x) (N : Nat) (hN : N ≤ 1000) (hcl : cells + 1 ≤ R.cells) (hsl : slots + N ≤ R.slots) (hdg : decode cc pc = .ok (.newarray .boolean, 2))
    (kk : ∀ (a : Nat) (H1 : Heap), va_P D gn_cls (ws ++ [(a, .inl (cZ, N, .inl (fun _ => 0)))]) H1 → va_D A (ws ++ [(a, .inl (cZ, N, .inl (fun _ => 0)))]) → va_S A H0 H1 locs → W p l e R s m args below meth c H1 locs (cells + 1) (slots + N) Q (F0 m (pc + 2) ls (.ref a :: rest))) : W p l e R s m args below meth c H locs cells slots Q (F0 m pc ls (.int (nI N) :: rest)) := by
  obtain ⟨hx, hb, hr, hts, hown, hlk, hin, hml, hK, hNw⟩ := C
  refine va_newa (atype := .boolean) (ty := .boolean) (a0 := (N, .inl (fun _ => 0))) hx hb (hts (Cond.arrayClass .boolean) (gn_tin gc_arrZ rfl)) rfl hK hP hD hS hA (fun cA => rfl) (nI_pos (by omega)) (nI_clamp (by omega)) (by show N * 1 ≤ 536870912; omega) hcl hsl hdg (fun a cA H1 hK1 p1 p2 p3 => ?_)
  have e : cA = cZ := Option.some.inj ((hK1.2 2 (cA, .boolean) rfl).2.symm.trans (hK.2 1 (cZ, .boolean) rfl).2)
  subst e
  exact kk a H1 p1 p2 p3
/-- a store into the new object's field -/
theorem gc_put (C : gc_C q cc D cI cZ p s m args meth c) (hP : va_P D gn_cls ((h0, .inr (q, fs)) :: ws) H) (hD : va_D A ((h0, .inr (q, fs)) :: ws)) (hS : va_S A H0 H locs) (k idx : Nat) {v : Value} {ty : FieldType} (hq : q < 13) (hfld : (q, idx, q, k, 0) ∈ gn_fldT) (hk : k < (gn_cls.getD q ("", gn_T0, 0)).2.2) (hT : (gn_Tf q k).1 = gn_nm q) (hty : (gn_tys.getD q gn_ty0) k = ty) (hnr : narrow ty v = v) (hfit : fits ty v = true) (hl : k < fs.length) (hdg : decode cc pc = .ok (.putfield idx, 3))
    (kk : ∀ (H1 : Heap) (locs1 : List Loc), va_P D gn_cls ((h0, .inr (q, fs.set k v)) :: ws) H1 → va_D A ((h0, .inr (q, fs.set k v)) :: ws) → va_S A H0 H1 locs1 → W p l e R s m args below meth c H1 locs1 cells slots Q (F0 m (pc + 3) ls rest)) : W p l e R s m args below meth c H locs cells slots Q (F0 m pc ls (v :: .ref h0 :: rest)) := by
  obtain ⟨hx, hb, hr, hts, hown, hlk, hin, hml, hK, hNw⟩ := C
  obtain ⟨Cn, N, hc, hNe⟩ := gn_cls_at hq
  rw [← hNe] at hk
  have hd := gn_cls_ok q hq _ _ _ hc k hk
  rw [hty] at hd
  have hlink := hts _ (gn_tin (gn_fw_in _ hfld) rfl)
  cases hf : (gn_Tf q k).2.2.2 with
  | true => exact va_putF (D := D) (v := v) hx hb hts (gn_lays_of hc) _ (gn_cls_ok q hq _ _ _ hc) (gn_cls_nm q hq _ _ _ hc) hown hK hP hD hS 0 rfl hc k hk hlink (fun _ z => z) hf hin hT hd hnr hfit hl hdg kk
  | false => exact va_put (D := D) (v := v) hx hb hts (gn_lays_of hc) _ (gn_cls_ok q hq _ _ _ hc) (gn_cls_nm q hq _ _ _ hc) hown hK hP hD hS 0 rfl hc k hk hlink (fun _ z => z) hf hd hnr hfit hl hdg kk
/-- a new array of ints into a field -/
theorem gc_ai (C : gc_C q cc D cI cZ p s m args meth c) (hP : va_P D gn_cls ((h0, .inr (q, fs)) :: ws) H) (hD : va_D A ((h0, .inr (q, fs)) :: ws)) (hS : va_S A H0 H locs) (hA : ∀ x, H0.size ≤ x → A x) (N k idx : Nat) (hN : N ≤ 1000) (hcl : cells + 1 ≤ R.cells) (hsl : slots + N ≤ R.slots) (hq : q < 13) (hfld : (q, idx, q, k, 0) ∈ gn_fldT) (hk : k < (gn_cls.getD q ("", gn_T0, 0)).2.2) (hT : (gn_Tf q k).1 = gn_nm q) (hty : (gn_tys.getD q gn_ty0) k = .array .int) (hl : k < fs.length) (h1 : decode cc pc = .ok (.newarray .int, 2)) (h2 : decode cc (pc + 2) = .ok (.putfield idx, 3))
    (kk : ∀ (a : Nat) (H1 : Heap) (locs1 : List Loc), va_P D gn_cls ((h0, .inr (q, fs.set k (.ref a))) :: (ws ++ [(a, .inl (cI, N, .inl (fun _ => 0)))])) H1 → va_D A ((h0, .inr (q, fs.set k (.ref a))) :: (ws ++ [(a, .inl (cI, N, .inl (fun _ => 0)))])) → va_S A H0 H1 locs1 → W p l e R s m args below meth c H1 locs1 (cells + 1) (slots + N) Q (F0 m (pc + 5) ls rest)) : W p l e R s m args below meth c H locs cells slots Q (F0 m pc ls (.int (nI N) :: .ref h0 :: rest)) := by
  refine gc_newi C hP hD hS hA N hN hcl hsl h1 (fun a H1 p1 p2 p3 => ?_)
  rw [List.cons_append] at p1 p2
  exact gc_put C p1 p2 p3 k idx hq hfld hk hT hty rfl rfl hl h2 (fun H2 locs1 r1 r2 r3 => kk a H2 locs1 r1 r2 r3)
theorem gc_az (C : gc_C q cc D cI cZ p s m args meth c) (hP : va_P D gn_cls ((h0, .inr (q, fs)) :: ws) H) (hD : va_D A ((h0, .inr (q, fs)) :: ws)) (hS : va_S A H0 H locs) (hA : ∀ x, H0.size ≤ x → A x) (N k idx : Nat) (hN : N ≤ 1000) (hcl : cells + 1 ≤ R.cells) (hsl : slots + N ≤ R.slots) (hq : q < 13) (hfld : (q, idx, q, k, 0) ∈ gn_fldT) (hk : k < (gn_cls.getD q ("", gn_T0, 0)).2.2) (hT : (gn_Tf q k).1 = gn_nm q) (hty : (gn_tys.getD q gn_ty0) k = .array .boolean) (hl : k < fs.length) (h1 : decode cc pc = .ok (.newarray .boolean, 2)) (h2 : decode cc (pc + 2) = .ok (.putfield idx, 3))
    (kk : ∀ (a : Nat) (H1 : Heap) (locs1 : List Loc), va_P D gn_cls ((h0, .inr (q, fs.set k (.ref a))) :: (ws ++ [(a, .inl (cZ, N, .inl (fun _ => 0)))])) H1 → va_D A ((h0, .inr (q, fs.set k (.ref a))) :: (ws ++ [(a, .inl (cZ, N, .inl (fun _ => 0)))])) → va_S A H0 H1 locs1 → W p l e R s m args below meth c H1 locs1 (cells + 1) (slots + N) Q (F0 m (pc + 5) ls rest)) : W p l e R s m args below meth c H locs cells slots Q (F0 m pc ls (.int (nI N) :: .ref h0 :: rest)) := by
  refine gc_newz C hP hD hS hA N hN hcl hsl h1 (fun a H1 p1 p2 p3 => ?_)
  rw [List.cons_append] at p1 p2
  exact gc_put C p1 p2 p3 k idx hq hfld hk hT hty rfl rfl hl h2 (fun H2 locs1 r1 r2 r3 => kk a H2 locs1 r1 r2 r3)
end
/-- the way into a constructor, up to behind Object's -/
theorem gc_met {l : Launch} {D : va_G} {cI cZ : ClassId} {q : Nat} {fs : List Value} {cc : ByteArray} {mc ms fr lo : Nat} {Wf : (Nat → Nat) → va_W} (oi : Nat) (hy : plainName (gn_nm q) = true) (d0 : decode cc 0 = .ok (.aload_n 0, 1)) (d1 : decode cc 1 = .ok (.invokespecial oi, 3)) (ho : Cond.methodLink (gn_nm q) oi Lib.objectInit ∈ lw_tbl) (hfr : 1 ≤ fr) (hlo : 12 ≤ lo)
    (body : ∀ (p : Program) (e : Env) (s : State) (m : MethodId) (args : Array Value) (below : List Frame) (meth : Method) (c : Code) (h0 : Nat) (ls : Array Slot) (A : Nat → Prop), gc_C q cc D cI cZ p s m args meth c → va_P D gn_cls [(h0, .inr (q, fs))] s.heap → va_D A [(h0, .inr (q, fs))] → va_S A s.heap s.heap [] → (∀ x, s.heap.size ≤ x → A x) → lv_has ls 1 [(0, .ref h0)] → W p l e { frames := fr, cells := mc, slots := ms, locals := lo } s m args below meth c s.heap [] 0 0 (MQ below (va_Qv (fun u : Nat → Nat => u 0 = h0) (gc_Post D A Wf) A) args s mc ms A) (F0 m 4 ls [])) : gc_Met l D cI cZ q fs cc mc ms fr lo Wf := by
  intro h sz
  refine Met.ofW (cc := cc) (maxL := 1) (ret := none) hy rfl ?_
  intro p e s m args below meth c s₁ B hml hv
  obtain ⟨rfl, hsz, hP, hK, hD0, hN⟩ := hv
  have hts0 := atoms_spec (ws := .code ⟨gn_nm q, "<init>", "()V"⟩ cc 1 none :: gn_tbl) B.pre
  have hts : ∀ w ∈ gn_tbl, w.before [Value.ref h].toArray s = true := fun w hw => hts0 w (List.mem_cons_of_mem _ hw)
  have hown : s.vm.findClass (gn_nm q) = some m.cls := findClass_of_methodNamed B.named
  have hin : meth.name = "<init>" := (name_of_methodNamed B.named B.method).1
  subst hsz
  have hD := hD0.self (sz := s.heap.size)
  have hA : ∀ x : Nat, s.heap.size ≤ x → va_A [(h, .inr (q, fs))] s.heap.size x := fun x hx => Or.inr hx
  have hl := lv_entry ([.ref h]) (n := 1) (Nat.le_of_ble_eq_true rfl)
  rw [lg_entry_eq]
  generalize (lg_sl ([.ref h]) ++ List.replicate (1 - (lg_sl ([.ref h])).length) Slot.unset).toArray = ls at hl ⊢
  have hl : lv_has ls 1 [(0, .ref h)] := hl
  refine lv_aload_n B.exec B.bytes d0 rfl (lv_at hl 0 rfl) ?_
  refine W.objInit B.exec B.bytes hown (hts _ (gn_tin ho rfl)) (hts _ (gn_tin gc_oii rfl)) (hts _ (gn_tin gc_oic rfl)) rfl (by rw [hml]; exact hl.1) rfl d1 hfr hlo ?_
  exact body p e s m _ below meth c h ls _ ⟨B.exec, B.bytes, B.returns, hts, hown, B.notSynchronized, hin, hml, hK, hN⟩ hP hD va_S.rf hA hl
