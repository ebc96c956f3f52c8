/-! the law: a call, a case -/
def gPL (x m : Nat) (as : List Value) (σ : gn_Mem) : Prop := gn_W 20 x 0 (.ref 0 :: as) [] σ (fun r1 σ1 => gn_W 20 m 0 (.ref 44 :: as) [] σ1 (fun r2 σ2 => (∃ v : Int32, r1 = some (.int v) ∧ r2 = some (.int v)) ∧ (Inv σ2 ∨ Inv (swp σ2))))
theorem gPair.L {x m : Nat} {as : List Value} {σ : gn_Mem} (h : gPair x m as σ) : gPL x m as σ := gw_mono h (fun r1 σ1 h1 => gw_mono h1 (fun r2 σ2 h2 => ⟨h2.1, Or.inl h2.2⟩))
def gl_ok (is : List (Nat × Instr × Nat)) : Prop := ∀ t ∈ is, decode code t.1 = .ok (t.2.1, t.2.2)
theorem gl_at {is : List (Nat × Instr × Nat)} (h : gl_ok is) (k : Nat) {p : Nat} {i : Instr} {n : Nat} (hk : is[k]? = some (p, i, n)) : decode code p = .ok (i, n) := h (p, i, n) (List.mem_of_getElem? hk)
def gl_argI (p k : Nat) : List (Nat × Instr × Nat) := [(p, .aload_n 0, 1), (p + 1, .iload_n 3, 1), (p + 1 + 1, .iconst (k : Int), 1), (p + 1 + 1 + 1, .iadd, 1), (p + 1 + 1 + 1 + 1, .iaload, 1)]
def gl_argsI : Nat → Nat → List (Nat × Instr × Nat)
  | 0, _ => []
  | n + 1, p => gl_argsI n p ++ gl_argI (p + 5 * n) (n + 1)
def gl_vals (xs : Nat → Int32) (i : Nat) : Nat → List Value
  | 0 => []
  | n + 1 => gl_vals xs i n ++ [.int (xs (i + (n + 1)))]
def gl_sh (n p ix im : Nat) : List (Nat × Instr × Nat) := [(p, .aload_n 1, 1)] ++ (gl_argsI n (p + 1) ++ ([(p + 1 + 5 * n, .invokevirtual ix, 3), (p + 1 + 5 * n + 3, .aload_n 2, 1)] ++ (gl_argsI n (p + 1 + 5 * n + 3 + 1) ++ [(p + 1 + 5 * n + 3 + 1 + 5 * n, .invokevirtual im, 3), (p + 1 + 5 * n + 3 + 1 + 5 * n + 3, .if_icmp .eq ((1018 : Int) - ((p + 1 + 5 * n + 3 + 1 + 5 * n + 3 : Nat) : Int)), 3)])))
def gl_bzI (p : Nat) : List (Nat × Instr × Nat) := [(p, .ifCond .eq 7, 3), (p + 3, .iconst 1, 1), (p + 3 + 1, .goto 4, 3), (p + 7, .iconst 0, 1)]
def gl_hsh : List (Nat × Instr × Nat) := [(815, .aload_n 1, 1)] ++ (gl_argsI 2 816 ++ (gl_bzI 826 ++ ([(834, .invokevirtual 109, 3), (837, .aload_n 2, 1)] ++ (gl_argsI 2 838 ++ (gl_bzI 848 ++ [(856, .invokevirtual 113, 3), (859, .if_icmp .eq 159, 3)])))))
theorem gl_v_int {xs : Nat → Int32} {i : Nat} : ∀ n, ∀ v ∈ gl_vals xs i n, gn_isL v = false := by
  intro n
  induction n with
  | zero => intro v hv; cases hv
  | succ n ih =>
    intro v hv
    rcases List.mem_append.mp hv with h | h
    · exact ih v h
    · rw [List.mem_singleton.mp h]; rfl
theorem gl_v_cz {xs : Nat → Int32} {i : Nat} {ad : Nat → Nat} : ∀ n, (gl_vals xs i n).map (gn_cz ad) = gl_vals xs i n := by
  intro n
  induction n with
  | zero => rfl
  | succ n ih =>
    show (gl_vals xs i n ++ [_]).map (gn_cz ad) = _
    rw [List.map_append, ih]
    rfl
theorem gl_v_len {xs : Nat → Int32} {i : Nat} : ∀ n, (gl_vals xs i n).length = n := by
  intro n
  induction n with
  | zero => rfl
  | succ n ih =>
    show (gl_vals xs i n ++ [_]).length = _
    rw [List.length_append, ih]
    rfl
section
variable {l : Launch} {D : va_G} {cI cZ : ClassId} {ad : Nat → Nat} {p : Program} {e : Env} {s : State} {m : MethodId} {below : List Frame} {meth : Method} {c : Code} {H : Heap} {locs : List Loc} {pc : Nat} {Qf : State → Prop} {ls : Array Slot} {rest : List Value} {b L i : Nat} {xs : Nat → Int32} {σ : gn_Mem} {Q : Option Value → gn_Mem → Prop}
theorem gl_callG {A : Nat → Prop} {R : Room} {args : Array Value} {H0 : Heap} {cells slots : Nat} {st0 : List Value} {a : Array Value} (hr : va_Run p l e R s m args below meth c H locs cells slots 0 0 (F0 m pc ls st0) rest (gn_Qc D cI cZ ad A Q a) A) (hS : va_S A H0 H locs)
    (kk : ∀ (rv : Option Value) (σ' : gn_Mem) (H1 : Heap) (locs1 : List Loc), Q rv σ' → va_P D gn_cls (gn_ws cI cZ ad σ') H1 → va_D A (gn_ws cI cZ ad σ') → va_S A H0 H1 locs1 → W p l e R s m args below meth c H1 locs1 cells slots Qf (F0 m (pc + 3) ls ((rv.map (gn_cz ad)).toList ++ rest))) : W p l e R s m args below meth c H locs cells slots Qf (F0 m pc ls st0) := by
  intro T hT X
  obtain ⟨v, st₀, t, T', L, h0, X', hL, e1, e2, ⟨⟨rv, σ', hv, hq, hB⟩, hz, hk⟩, st⟩ := hr T hT X
  cases hv
  rw [h0] at hz hk
  obtain ⟨t2, a1, b1⟩ := kk rv σ' T'.heap (locs ++ L) hq (by rw [e1]; exact hB.1) hB.2.2.1
    ⟨Nat.le_trans hS.1 (by rw [e1]; exact hz), fun q h1 h2 => by rw [e1, hk q (Nat.lt_of_lt_of_le h1 hS.1) h2]; exact hS.2.1 q h1 h2, fun q hq => by
      rcases List.mem_append.mp hq with h | h
      · exact hS.2.2 q h
      · exact hL q h⟩ T' rfl X'
  exact ⟨t2, st t2 a1, b1⟩
theorem gl_call {mi idx ac o ml oc : Nat} {y : MethodName} {bytes : ByteArray} {rt : Option FieldType} {as : List Value} (C : lw_At p s m meth c b L xs) (hK : va_K D gn_cls [(cI, .int), (cZ, .boolean)] s) (hN : ∀ w ∈ gn_nst, va_Nw w s) (hm : gn_meta[mi]? = some (y, bytes, ml, rt, false, ac, oc)) (hlk : Cond.methodLink R_law idx y ∈ lw_tbl) (ho : o < gn_NO) (hoc : gn_nm (gn_oc o) = y.cls) (has : ∀ v ∈ as, gn_isL v = false) (hcz : as.map (gn_cz ad) = as) (hac : as.length = ac) (hW : gn_W 20 mi 0 (.ref o :: as) [] σ Q) (hP : va_P D gn_cls (gn_ws cI cZ ad σ) H) (hD : va_D (fun q => s.heap.size ≤ q) (gn_ws cI cZ ad σ)) (hS : va_S (fun q => s.heap.size ≤ q) s.heap H locs) (hcat : (rest.map fun v => v.category).sum ≤ 8) (hls : ls.size = 4) (hdg : decode code pc = .ok (.invokevirtual idx, 3))
    (kk : ∀ (rv : Option Value) (σ' : gn_Mem) (H1 : Heap) (locs1 : List Loc), Q rv σ' → va_P D gn_cls (gn_ws cI cZ ad σ') H1 → va_D (fun q => s.heap.size ≤ q) (gn_ws cI cZ ad σ') → va_S (fun q => s.heap.size ≤ q) s.heap H1 locs1 → W p l e room_1 s m #[Value.ref b] below meth c H1 locs1 600000 7302249 Qf (F0 m (pc + 3) ls ((rv.map (gn_cz ad)).toList ++ rest))) : W p l e room_1 s m #[Value.ref b] below meth c H locs 600000 7302249 Qf (F0 m pc ls (as.reverse ++ .ref (ad o) :: rest)) := by
  obtain ⟨hx, hb, hr, hml, hown, hts, hX, hbl, hlocks, hgv⟩ := C
  obtain ⟨n, hwp⟩ := hW
  have hmem := List.mem_of_getElem? hm
  have hmok := gn_meta_ok _ hmem
  have hmne := gn_meta_ne _ hmem
  have hflt : (y, bytes, ml, rt, false, ac, oc) ∈ gn_meta.filter (fun t => !t.2.2.2.2.1) := List.mem_filter.mpr ⟨hmem, rfl⟩
  have hM := gn_met (gn_sound l D cI cZ ad (fun q => s.heap.size ≤ q) n) hm hwp (fun v hv => by
    rcases List.mem_cons.mp hv with rfl | hv
    · rfl
    · exact has v hv) (by have h9 : ac + 1 ≤ ml := hmne.2; rw [List.length_cons, hac]; exact h9)
  have hR : (gn_rm 20).frames + 1 ≤ room_1.frames ∧ 8 + (ml + 11) + (gn_rm 20).locals ≤ room_1.locals := by
    have h9 : ml ≤ 21 := hmok.2.2.2.2.1
    constructor
    · show 20 + 1 ≤ 2048; omega
    · show 8 + (ml + 11) + 64 * 20 ≤ 84000; omega
  have hG : GoodIn lw_tbl (wsV R_law idx y.cls y (.code y bytes ml rt :: gn_tbl)) := by
    intro w hw
    have h8 : w ∈ lw_tbl ∧ goodWord w = true := by
      unfold wsV at hw
      rcases List.mem_append.mp hw with hw | hw
      · simp only [List.mem_cons, List.not_mem_nil, or_false] at hw
        rcases hw with rfl | rfl | rfl | rfl
        · exact ⟨hlk, rfl⟩
        · exact ⟨gn_inst_in _ hflt, rfl⟩
        · exact ⟨gn_sel_in _ hflt, rfl⟩
        · exact ⟨gn_init_in _ hmem, rfl⟩
      · rcases List.mem_cons.mp hw with rfl | hw
        · exact ⟨gn_code_in _ hmem, rfl⟩
        · exact List.mem_filter.mp hw
    exact ⟨h8.1, good_of_word h8.2⟩
  have hrec := gn_recv (ad := ad) hK hP ho hoc hmne.1
  have hpre : PreV s H y.cls (ad o) (gn_Pc D cI cZ ad (fun q => s.heap.size ≤ q) (.ref o :: as) σ) as := ⟨gn_B.blind, hrec, fun U hU hW => ⟨by rw [List.map_cons, hcz]; rfl, gn_B.of hU hW hP hD hK hN⟩⟩
  exact gl_callG (va_runV (As := as) (rest := rest) (nL := 4) ⟨hx, hb, hml, hown, hts⟩ hM (cwV ac hts hG rfl rfl rfl ⟨rfl, hmok.2.1, hmok.2.2.1, hmok.2.2.2.1⟩ hR) hpre rfl hac hls rfl (lv_room hcat) hdg ⟨Nat.le_of_ble_eq_true rfl, Nat.le_of_ble_eq_true rfl⟩) hS kk
theorem gl_push (C : lw_At p s m meth c b L xs) (hL : L ≤ 2048) (hi : i + 4 ≤ L) (hS : va_S (fun q => s.heap.size ≤ q) s.heap H locs) (hl : lv_has ls 4 [(0, .ref b), (1, .ref (ad 0)), (2, .ref (ad 44)), (3, .int (nI i))]) : ∀ (n pc : Nat) (st : List Value), n ≤ 3 → gl_ok (gl_argsI n pc) → W p l e room_1 s m #[Value.ref b] below meth c H locs 600000 7302249 Qf (F0 m (pc + 5 * n) ls ((gl_vals xs i n).reverse ++ st)) → W p l e room_1 s m #[Value.ref b] below meth c H locs 600000 7302249 Qf (F0 m pc ls st) := by
  obtain ⟨hx, hb, hr, hml, hown, hts, hX, hbl, hlocks, hgv⟩ := C
  intro n
  induction n with
  | zero => intro pc st _ _ k; exact k
  | succ n ih =>
    intro pc st hn hok k
    obtain ⟨h1, h2⟩ := List.forall_mem_append.mp hok
    have h2 : gl_ok (gl_argI (pc + 5 * n) (n + 1)) := h2
    have d0 : decode code (pc + 5 * n) = .ok (.aload_n 0, 1) := gl_at h2 0 rfl
    have d1 : decode code (pc + 5 * n + 1) = .ok (.iload_n 3, 1) := gl_at h2 1 rfl
    have d2 : decode code (pc + 5 * n + 1 + 1) = .ok (.iconst ((n + 1 : Nat) : Int), 1) := gl_at h2 2 rfl
    have d3 : decode code (pc + 5 * n + 1 + 1 + 1) = .ok (.iadd, 1) := gl_at h2 3 rfl
    have d4 : decode code (pc + 5 * n + 1 + 1 + 1 + 1) = .ok (.iaload, 1) := gl_at h2 4 rfl
    refine ih pc st (by omega) h1 ?_
    refine lv_aload_n hx hb d0 rfl (lv_at hl 0 rfl) ?_
    refine lv_iload_n hx hb d1 rfl (lv_at hl 3 rfl) ?_
    refine lv_iconst (v := nI (n + 1)) hx hb d2 (by
      rcases (show n = 0 ∨ n = 1 ∨ n = 2 by omega) with rfl | rfl | rfl <;> rfl) ?_
    refine lv_iadd hx hb d3 ?_
    rw [nI_add]
    refine va_sld hx hb hX hbl (A := fun q => s.heap.size ≤ q) (Nat.not_le.mpr hbl) hS (vp_in_nI (show i + (n + 1) < L by omega) (by omega)) d4 ?_
    rw [nI_clamp (by omega)]
    have e9 : (gl_vals xs i (n + 1)).reverse ++ st = .int (xs (i + (n + 1))) :: ((gl_vals xs i n).reverse ++ st) := by
      show ((gl_vals xs i n ++ [_]).reverse ++ st) = _
      rw [List.reverse_append]
      rfl
    rw [e9, show pc + 5 * (n + 1) = pc + 5 * n + 1 + 1 + 1 + 1 + 1 by omega] at k
    exact k
theorem gl_case {n p0 ix im x m2 ml1 ml2 : Nat} {y1 y2 : MethodName} {by1 by2 : ByteArray} {rt1 rt2 : Option FieldType} (C : lw_At p s m meth c b L xs) (hK : va_K D gn_cls [(cI, .int), (cZ, .boolean)] s) (hN : ∀ w ∈ gn_nst, va_Nw w s) (hL : L ≤ 2048) (hn : n ≤ 3) (hok : gl_ok (gl_sh n p0 ix im)) (hm1 : gn_meta[x]? = some (y1, by1, ml1, rt1, false, n, 11)) (hm2 : gn_meta[m2]? = some (y2, by2, ml2, rt2, false, n, 12)) (hl1 : Cond.methodLink R_law ix y1 ∈ lw_tbl) (hl2 : Cond.methodLink R_law im y2 ∈ lw_tbl) (hpair : gPL x m2 (gl_vals xs i n) σ) (hP : va_P D gn_cls (gn_ws cI cZ ad σ) H) (hD : va_D (fun q => s.heap.size ≤ q) (gn_ws cI cZ ad σ)) (hS : va_S (fun q => s.heap.size ≤ q) s.heap H locs) (hi : i + 4 ≤ L) (hl : lv_has ls 4 [(0, .ref b), (1, .ref (ad 0)), (2, .ref (ad 44)), (3, .int (nI i))])
    (kk : ∀ (σ2 : gn_Mem) (H1 : Heap) (locs1 : List Loc), (Inv σ2 ∨ Inv (swp σ2)) → va_P D gn_cls (gn_ws cI cZ ad σ2) H1 → va_D (fun q => s.heap.size ≤ q) (gn_ws cI cZ ad σ2) → va_S (fun q => s.heap.size ≤ q) s.heap H1 locs1 → W p l e room_1 s m #[Value.ref b] below meth c H1 locs1 600000 7302249 Qf (F0 m 1018 ls [])) : W p l e room_1 s m #[Value.ref b] below meth c H locs 600000 7302249 Qf (F0 m p0 ls []) := by
  obtain ⟨hx, hb, hr, hml, hown, hts, hX, hbl, hlocks, hgv⟩ := id C
  obtain ⟨h0, hok⟩ := List.forall_mem_append.mp hok
  obtain ⟨h1, hok⟩ := List.forall_mem_append.mp hok
  obtain ⟨h2, hok⟩ := List.forall_mem_append.mp hok
  obtain ⟨h3, h4⟩ := List.forall_mem_append.mp hok
  have d0 : decode code p0 = .ok (.aload_n 1, 1) := gl_at h0 0 rfl
  have d1 : decode code (p0 + 1 + 5 * n) = .ok (.invokevirtual ix, 3) := gl_at h2 0 rfl
  have d2 : decode code (p0 + 1 + 5 * n + 3) = .ok (.aload_n 2, 1) := gl_at h2 1 rfl
  have d3 : decode code (p0 + 1 + 5 * n + 3 + 1 + 5 * n) = .ok (.invokevirtual im, 3) := gl_at h4 0 rfl
  have d4 : decode code (p0 + 1 + 5 * n + 3 + 1 + 5 * n + 3) = .ok (.if_icmp .eq ((1018 : Int) - ((p0 + 1 + 5 * n + 3 + 1 + 5 * n + 3 : Nat) : Int)), 3) := gl_at h4 1 rfl
  clear h0 h2 h4 hok
  refine lv_aload_n hx hb d0 rfl (lv_at hl 1 rfl) ?_
  refine gl_push C hL hi hS hl n (p0 + 1) [.ref (ad 0)] hn h1 ?_
  refine gl_call C hK hN hm1 hl1 (o := 0) (by decide) (show gn_nm 11 = y1.cls from ((gn_meta_ok _ (List.mem_of_getElem? hm1)).2.2.2.2.2).symm) (gl_v_int n) (gl_v_cz n) (gl_v_len n) hpair hP hD hS (Nat.zero_le _) hl.1 d1 (fun rv σ1 H1 locs1 hq p1 p2 p3 => ?_)
  obtain ⟨v, rfl⟩ : ∃ v : Int32, rv = some (.int v) := by
    obtain ⟨n9, hq9⟩ := hq
    obtain ⟨r9, σ9, ⟨⟨v, hv, -⟩, -⟩, -⟩ := gn_det _ _ _ _ _ _ _ _ hq9
    exact ⟨v, hv⟩
  refine lv_aload_n hx hb d2 rfl (lv_at hl 2 rfl) ?_
  refine gl_push C hL hi p3 hl n (p0 + 1 + 5 * n + 3 + 1) [.ref (ad 44), .int v] hn h3 ?_
  refine gl_call C hK hN hm2 hl2 (o := 44) (by decide) (show gn_nm 12 = y2.cls from ((gn_meta_ok _ (List.mem_of_getElem? hm2)).2.2.2.2.2).symm) (gl_v_int n) (gl_v_cz n) (gl_v_len n) hq p1 p2 p3 (rest := [.int v]) (Nat.le_of_ble_eq_true rfl) hl.1 d3 (fun rv2 σ2 H2 locs2 hq2 r1 r2 r3 => ?_)
  obtain ⟨⟨v', e1, e2⟩, hinv⟩ := hq2
  cases e1
  subst e2
  refine lv_icmp_eq (tgt := 1018) hx hb d4 (by omega) (fun _ => kk σ2 H2 locs2 hinv r1 r2 r3) (fun q => absurd rfl q)
theorem gl_bz {x : Int32} {st : List Value} (C : lw_At p s m meth c b L xs) (h : gl_ok (gl_bzI pc)) (k : W p l e room_1 s m #[Value.ref b] below meth c H locs 600000 7302249 Qf (F0 m (pc + 8) ls (.int (if x = 0 then 0 else 1) :: st))) : W p l e room_1 s m #[Value.ref b] below meth c H locs 600000 7302249 Qf (F0 m pc ls (.int x :: st)) := by
  obtain ⟨hx, hb, hr, hml, hown, hts, hX, hbl, hlocks, hgv⟩ := id C
  have d0 : decode code pc = .ok (.ifCond .eq 7, 3) := gl_at h 0 rfl
  have d1 : decode code (pc + 3) = .ok (.iconst 1, 1) := gl_at h 1 rfl
  have d2 : decode code (pc + 3 + 1) = .ok (.goto 4, 3) := gl_at h 2 rfl
  have d3 : decode code (pc + 7) = .ok (.iconst 0, 1) := gl_at h 3 rfl
  refine lv_if_eq (tgt := pc + 7) hx hb d0 (by omega) (fun q => ?_) (fun q => ?_)
  · rw [if_pos q] at k
    exact lv_iconst (v := 0) hx hb d3 (by decide) k
  · rw [if_neg q] at k
    refine lv_iconst (v := 1) hx hb d1 (by decide) ?_
    exact lv_goto (tgt := pc + 8) hx hb d2 (by omega) k
theorem gl_hear {ml1 ml2 : Nat} {y1 y2 : MethodName} {by1 by2 : ByteArray} {rt1 rt2 : Option FieldType} (C : lw_At p s m meth c b L xs) (hK : va_K D gn_cls [(cI, .int), (cZ, .boolean)] s) (hN : ∀ w ∈ gn_nst, va_Nw w s) (hL : L ≤ 2048) (hok : gl_ok gl_hsh) (hm1 : gn_meta[115]? = some (y1, by1, ml1, rt1, false, 2, 11)) (hm2 : gn_meta[195]? = some (y2, by2, ml2, rt2, false, 2, 12)) (hl1 : Cond.methodLink R_law 109 y1 ∈ lw_tbl) (hl2 : Cond.methodLink R_law 113 y2 ∈ lw_tbl) (hpair : gPL 115 195 [.int (xs (i + 1)), .int (if xs (i + 2) = 0 then 0 else 1)] σ) (hP : va_P D gn_cls (gn_ws cI cZ ad σ) H) (hD : va_D (fun q => s.heap.size ≤ q) (gn_ws cI cZ ad σ)) (hS : va_S (fun q => s.heap.size ≤ q) s.heap H locs) (hi : i + 4 ≤ L) (hl : lv_has ls 4 [(0, .ref b), (1, .ref (ad 0)), (2, .ref (ad 44)), (3, .int (nI i))])
    (kk : ∀ (σ2 : gn_Mem) (H1 : Heap) (locs1 : List Loc), (Inv σ2 ∨ Inv (swp σ2)) → va_P D gn_cls (gn_ws cI cZ ad σ2) H1 → va_D (fun q => s.heap.size ≤ q) (gn_ws cI cZ ad σ2) → va_S (fun q => s.heap.size ≤ q) s.heap H1 locs1 → W p l e room_1 s m #[Value.ref b] below meth c H1 locs1 600000 7302249 Qf (F0 m 1018 ls [])) : W p l e room_1 s m #[Value.ref b] below meth c H locs 600000 7302249 Qf (F0 m 815 ls []) := by
  obtain ⟨hx, hb, hr, hml, hown, hts, hX, hbl, hlocks, hgv⟩ := id C
  obtain ⟨h0, hok⟩ := List.forall_mem_append.mp hok
  obtain ⟨h1, hok⟩ := List.forall_mem_append.mp hok
  obtain ⟨hz1, hok⟩ := List.forall_mem_append.mp hok
  obtain ⟨h2, hok⟩ := List.forall_mem_append.mp hok
  obtain ⟨h3, hok⟩ := List.forall_mem_append.mp hok
  obtain ⟨hz2, h4⟩ := List.forall_mem_append.mp hok
  have d0 : decode code 815 = .ok (.aload_n 1, 1) := gl_at h0 0 rfl
  have d1 : decode code 834 = .ok (.invokevirtual 109, 3) := gl_at h2 0 rfl
  have d2 : decode code 837 = .ok (.aload_n 2, 1) := gl_at h2 1 rfl
  have d3 : decode code 856 = .ok (.invokevirtual 113, 3) := gl_at h4 0 rfl
  have d4 : decode code 859 = .ok (.if_icmp .eq 159, 3) := gl_at h4 1 rfl
  clear h0 h2 h4 hok
  have has : ∀ v ∈ [Value.int (xs (i + 1)), Value.int (if xs (i + 2) = 0 then 0 else 1)], gn_isL v = false := by
    intro v hv
    rcases List.mem_cons.mp hv with rfl | hv
    · rfl
    · rw [List.mem_singleton.mp hv]; rfl
  refine lv_aload_n hx hb d0 rfl (lv_at hl 1 rfl) ?_
  refine gl_push C hL hi hS hl 2 816 [.ref (ad 0)] (by omega) h1 ?_
  refine gl_bz (x := xs (i + 2)) (pc := 826) (st := [.int (xs (i + 1)), .ref (ad 0)]) C hz1 ?_
  refine gl_call (pc := 834) C hK hN hm1 hl1 (o := 0) (as := [.int (xs (i + 1)), .int (if xs (i + 2) = 0 then 0 else 1)]) (rest := []) (by decide) (show gn_nm 11 = y1.cls from ((gn_meta_ok _ (List.mem_of_getElem? hm1)).2.2.2.2.2).symm) has rfl rfl hpair hP hD hS (Nat.zero_le _) hl.1 d1 (fun rv σ1 H1 locs1 hq p1 p2 p3 => ?_)
  obtain ⟨v, rfl⟩ : ∃ v : Int32, rv = some (.int v) := by
    obtain ⟨n9, hq9⟩ := hq
    obtain ⟨r9, σ9, ⟨⟨v, hv, -⟩, -⟩, -⟩ := gn_det _ _ _ _ _ _ _ _ hq9
    exact ⟨v, hv⟩
  refine lv_aload_n (pc := 837) hx hb d2 rfl (lv_at hl 2 rfl) ?_
  refine gl_push C hL hi p3 hl 2 838 [.ref (ad 44), .int v] (by omega) h3 ?_
  refine gl_bz (x := xs (i + 2)) (pc := 848) (st := [.int (xs (i + 1)), .ref (ad 44), .int v]) C hz2 ?_
  refine gl_call (pc := 856) C hK hN hm2 hl2 (o := 44) (as := [.int (xs (i + 1)), .int (if xs (i + 2) = 0 then 0 else 1)]) (by decide) (show gn_nm 12 = y2.cls from ((gn_meta_ok _ (List.mem_of_getElem? hm2)).2.2.2.2.2).symm) has rfl rfl hq p1 p2 p3 (rest := [.int v]) (Nat.le_of_ble_eq_true rfl) hl.1 d3 (fun rv2 σ2 H2 locs2 hq2 r1 r2 r3 => ?_)
  obtain ⟨⟨v', e1, e2⟩, hinv⟩ := hq2
  cases e1
  subst e2
  exact lv_icmp_eq (pc := 859) (tgt := 1018) hx hb d4 (by decide) (fun _ => kk σ2 H2 locs2 hinv r1 r2 r3) (fun q => absurd rfl q)
end
