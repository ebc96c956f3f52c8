/-! the pure machine: one flat memory, locals and stack as lists; 'gn_wp' is the weakest precondition of a run -/
def gn_at : List Value → Nat → Value
  | [], _ => .null
  | x :: _, 0 => x
  | _ :: xs, k + 1 => gn_at xs k
def gn_set : List Value → Nat → Value → List Value
  | [], 0, v => [v]
  | [], k + 1, v => .null :: gn_set [] k v
  | _ :: xs, 0, v => v :: xs
  | x :: xs, k + 1, v => x :: gn_set xs k v
def gn_isL : Value → Bool
  | .long _ => true
  | .double _ => true
  | _ => false
/-- a store at a is allowed: what stands ahead of it is no long -/
def gn_okS (lo : List Value) : Nat → Bool
  | 0 => true
  | a + 1 => !gn_isL (gn_at lo a)
def gn_cs (r : List Value) : Bool := Nat.ble ((r.map Value.category).sum) 8
def gn_up (σ : gn_Mem) (o k : Nat) (x : Int32) : gn_Mem := fun o' => if o' = o then upd (σ o) k x else σ o'
def gn_upF (σ : gn_Mem) (o : Nat) (f : Nat → Int32) : gn_Mem := fun o' => if o' = o then f else σ o'
def gn_dyn (x : Int32) : Nat := if x = 0 then 28 else 36
def gn_pop : Nat → List Value → List Value → Option (List Value × List Value)
  | 0, acc, st => some (acc, st)
  | n + 1, acc, v :: st => bif gn_isL v then none else gn_pop n (v :: acc) st
  | _ + 1, _, [] => none
def gn_cmp (c : ClassFile.Cond) (x y : Int32) : Prop := match c with
  | .eq => x = y
  | .ne => ¬ x = y
  | .lt => x < y
  | .ge => y ≤ x
  | .gt => y < x
  | .le => x ≤ y
noncomputable def gn_ly (o : Nat) : (Bool × Nat) ⊕ (Nat × List Nat) := bif Nat.blt o gn_NO then gn_lay o else .inr (99, [])
/-- the class of an object -/
noncomputable def gn_oc (o : Nat) : Nat := match gn_ly o with
  | .inr (q, _) => q
  | .inl _ => 99
/-- a field read -/
noncomputable def gn_fld (σ : gn_Mem) (o q k : Nat) : Option Value := match gn_ly o with
  | .inr (q', fs) => bif Nat.beq q' q then (match fs[k]? with
    | some 0 => some (.int (σ o k))
    | some 1 => some (.ref (gn_dyn (σ o k)))
    | some 2 => some (.int (σ o k))
    | some (r + 3) => some (.ref r)
    | none => none) else none
  | .inl _ => none
/-- is it an int field of an object of that class -/
noncomputable def gn_isI (o q k : Nat) : Bool := match gn_ly o with
  | .inr (q', fs) => bif Nat.beq q' q then (match fs[k]? with
    | some 0 => true
    | _ => false) else false
  | .inl _ => false
noncomputable def gn_isS (s o q k : Nat) : Bool := match gn_ly o with
  | .inr (q', fs) => bif Nat.beq q' q then (match fs[k]? with
    | some t => Nat.beq t s
    | _ => false) else false
  | .inl _ => false
noncomputable def gn_stp (d mi pc : Nat) (lo st : List Value) (σ : gn_Mem) : Option (Nat × List Value × List Value × gn_Mem) :=
  match gn_cd mi pc with
  | none => none
  | some (ins, nx, a, b, v) => match ins with
    | .aload_n _ => match gn_at lo a with | .ref o => some (nx, lo, .ref o :: st, σ) | _ => none
    | .iload_n _ => match gn_at lo a with | .int x => some (nx, lo, .int x :: st, σ) | _ => none
    | .iload _ => match gn_at lo a with | .int x => some (nx, lo, .int x :: st, σ) | _ => none
    | .lload_n _ => match gn_at lo a with | .long x => some (nx, lo, .long x :: st, σ) | _ => none
    | .istore_n _ => match st with | .int x :: r => bif gn_okS lo a then some (nx, gn_set lo a (.int x), r, σ) else none | _ => none
    | .istore _ => match st with | .int x :: r => bif gn_okS lo a then some (nx, gn_set lo a (.int x), r, σ) else none | _ => none
    | .astore_n _ => match st with | .ref x :: r => bif gn_okS lo a then some (nx, gn_set lo a (.ref x), r, σ) else none | _ => none
    | .lstore_n _ => match st with | .long x :: r => bif gn_okS lo a then some (nx, gn_set (gn_set lo a (.long x)) (a + 1) .null, r, σ) else none | _ => none
    | .iinc _ _ => match gn_at lo a with | .int x => bif gn_okS lo a then some (nx, gn_set lo a (.int (x + v)), st, σ) else none | _ => none
    | .iconst _ => some (nx, lo, .int v :: st, σ)
    | .bipush _ => some (nx, lo, .int v :: st, σ)
    | .sipush _ => some (nx, lo, .int v :: st, σ)
    | .ldc _ => some (nx, lo, .int v :: st, σ)
    | .ldc_w _ => some (nx, lo, .int v :: st, σ)
    | .ldc2_w _ => some (nx, lo, .long (Int64.ofNat b) :: st, σ)
    | .iadd => match st with | .int y :: .int x :: r => some (nx, lo, .int (x + y) :: r, σ) | _ => none
    | .isub => match st with | .int y :: .int x :: r => some (nx, lo, .int (x - y) :: r, σ) | _ => none
    | .imul => match st with | .int y :: .int x :: r => some (nx, lo, .int (x * y) :: r, σ) | _ => none
    | .iand => match st with | .int y :: .int x :: r => some (nx, lo, .int (x &&& y) :: r, σ) | _ => none
    | .ior => match st with | .int y :: .int x :: r => some (nx, lo, .int (x ||| y) :: r, σ) | _ => none
    | .ixor => match st with | .int y :: .int x :: r => some (nx, lo, .int (x ^^^ y) :: r, σ) | _ => none
    | .ishl => match st with | .int y :: .int x :: r => some (nx, lo, .int (x <<< (y &&& 31)) :: r, σ) | _ => none
    | .ishr => match st with | .int y :: .int x :: r => some (nx, lo, .int (x >>> (y &&& 31)) :: r, σ) | _ => none
    | .iushr => match st with | .int y :: .int x :: r => some (nx, lo, .int (x.toUInt32 >>> (y.toUInt32 &&& Int32.toUInt32 31)).toInt32 :: r, σ) | _ => none
    | .ladd => match st with | .long y :: .long x :: r => some (nx, lo, .long (x + y) :: r, σ) | _ => none
    | .lmul => match st with | .long y :: .long x :: r => some (nx, lo, .long (x * y) :: r, σ) | _ => none
    | .land => match st with | .long y :: .long x :: r => some (nx, lo, .long (x &&& y) :: r, σ) | _ => none
    | .i2l => match st with | .int x :: r => some (nx, lo, .long x.toInt64 :: r, σ) | _ => none
    | .l2i => match st with | .long x :: r => some (nx, lo, .int x.toInt32 :: r, σ) | _ => none
    | .dup => match st with | w :: r => bif gn_isL w then none else some (nx, lo, w :: w :: r, σ) | _ => none
    | .dup2 => match st with | w :: u :: r => bif gn_isL w || gn_isL u then none else some (nx, lo, w :: u :: w :: u :: r, σ) | _ => none
    | .pop => match st with | w :: r => bif gn_isL w then none else some (nx, lo, r, σ) | _ => none
    | .getfield _ => match st with | .ref o :: r => (match gn_fld σ o a b with | some w => some (nx, lo, w :: r, σ) | none => none) | _ => none
    | .putfield _ => match st with | .int x :: .ref o :: r => bif gn_isS 0 o a b then some (nx, lo, r, gn_up σ o b x) else none | _ => none
    | .invokestatic _ => match d with
      | 0 => none
      | _ + 1 => match st with
        | .int y :: .int x :: r => bif gn_cs r then (if v = 2 then some (nx, lo, .int (if x < y then y else x) :: r, σ) else if v = 3 then some (nx, lo, .int (if y < x then y else x) :: r, σ) else none) else none
        | _ => none
    | _ => none
/-- the target of a switch -/
def gn_swt (pc : Nat) (ins : Instr) (x : Int32) (t : Nat) : Prop := match ins with
  | .tableswitch dflt lo hi offs => (pc : Int) + (if x.toInt < lo ∨ hi < x.toInt then dflt else offs.getD (x.toInt - lo).toNat 0) = (t : Int)
  | .lookupswitch dflt ps => (pc : Int) + Op.lookupswitch.offset ps.toList dflt x.toInt = (t : Int)
  | _ => False
noncomputable def gn_wp : Nat → Nat → Nat → Nat → List Value → List Value → gn_Mem → (Option Value → gn_Mem → Prop) → Prop
  | 0, _, _, _, _, _, _, _ => False
  | n + 1, d, mi, pc, lo, st, σ, Q =>
    match gn_stp d mi pc lo st σ with
    | some (pc', lo', st', σ') => gn_wp n d mi pc' lo' st' σ' Q
    | none => match gn_cd mi pc with
      | none => False
      | some (ins, nx, a, b, v) => match ins with
        | .goto _ => gn_wp n d mi a lo st σ Q
        | .ifCond c _ => match st with
          | .int x :: r => (gn_cmp c x 0 → gn_wp n d mi a lo r σ Q) ∧ (¬ gn_cmp c x 0 → gn_wp n d mi nx lo r σ Q)
          | _ => False
        | .if_icmp c _ => match st with
          | .int y :: .int x :: r => (gn_cmp c x y → gn_wp n d mi a lo r σ Q) ∧ (¬ gn_cmp c x y → gn_wp n d mi nx lo r σ Q)
          | _ => False
        | .tableswitch p1 p2 p3 p4 => match st with
          | .int x :: r => ∀ t, gn_swt pc (.tableswitch p1 p2 p3 p4) x t → gn_wp n d mi t lo r σ Q
          | _ => False
        | .lookupswitch p1 p2 => match st with
          | .int x :: r => ∀ t, gn_swt pc (.lookupswitch p1 p2) x t → gn_wp n d mi t lo r σ Q
          | _ => False
        | .idiv => match st with
          | .int y :: .int x :: r => ¬ y = 0 ∧ gn_wp n d mi nx lo (.int (x / y) :: r) σ Q
          | _ => False
        | .irem => match st with
          | .int y :: .int x :: r => ¬ y = 0 ∧ gn_wp n d mi nx lo (.int (x - x / y * y) :: r) σ Q
          | _ => False
        | .ldiv => match st with
          | .long y :: .long x :: r => ¬ y = 0 ∧ gn_wp n d mi nx lo (.long (x / y) :: r) σ Q
          | _ => False
        | .lrem => match st with
          | .long y :: .long x :: r => ¬ y = 0 ∧ gn_wp n d mi nx lo (.long (x - x / y * y) :: r) σ Q
          | _ => False
        | .iaload => match st with
          | .int i :: .ref o :: r => (match gn_ly o with
            | .inl (false, len) => vp_in i len ∧ gn_wp n d mi nx lo (.int (σ o i.toNatClampNeg) :: r) σ Q
            | _ => False)
          | _ => False
        | .baload => match st with
          | .int i :: .ref o :: r => (match gn_ly o with
            | .inl (true, len) => vp_in i len ∧ gn_wp n d mi nx lo (.int (σ o i.toNatClampNeg) :: r) σ Q
            | _ => False)
          | _ => False
        | .iastore => match st with
          | .int x :: .int i :: .ref o :: r => (match gn_ly o with
            | .inl (false, len) => vp_in i len ∧ gn_wp n d mi nx lo r (gn_up σ o i.toNatClampNeg x) Q
            | _ => False)
          | _ => False
        | .bastore => match st with
          | .int x :: .int i :: .ref o :: r => (match gn_ly o with
            | .inl (true, len) => vp_in i len ∧ gn_wp n d mi nx lo r (gn_up σ o i.toNatClampNeg (vp_nar .boolean x)) Q
            | _ => False)
          | _ => False
        | .putfield _ => match st with
          | .int x :: .ref o :: r => gn_isS 2 o a b = true ∧ (x = 0 ∨ x = 1) ∧ gn_wp n d mi nx lo r (gn_up σ o b x) Q
          | .ref t :: .ref o :: r => gn_isS 1 o a b = true ∧ ∃ x, gn_dyn x = t ∧ gn_wp n d mi nx lo r (gn_up σ o b x) Q
          | _ => False
        | .invokevirtual _ => match d with
          | 0 => False
          | d' + 1 => match gn_pop b [] st with
            | some (as, .ref o :: r) => o < gn_NO ∧ gn_cs r = true ∧ gn_nm (gn_oc o) = (gn_y a).cls ∧ gn_wp n d' a 0 (.ref o :: as) [] σ (fun rv σ' => gn_wp n (d' + 1) mi nx lo (rv.toList ++ r) σ' Q)
            | _ => False
        | .invokestatic _ => match d with
          | 0 => False
          | d' + 1 => if v = 0 then (match gn_pop b [] st with
              | some (as, r) => gn_cs r = true ∧ gn_wp n d' a 0 as [] σ (fun rv σ' => gn_wp n (d' + 1) mi nx lo (rv.toList ++ r) σ' Q)
              | _ => False)
            else if v = 1 then (match st with
              | [.int k, .int dp, .ref o1, .int sp, .ref o0] => (match gn_ly o0, gn_ly o1 with
                | .inl (false, n0), .inl (false, n1) => o0 ≠ o1 ∧ ¬ sp < 0 ∧ ¬ dp < 0 ∧ ¬ k < 0 ∧ sp.toNatClampNeg + k.toNatClampNeg ≤ n0 ∧ dp.toNatClampNeg + k.toNatClampNeg ≤ n1 ∧ gn_wp n (d' + 1) mi nx lo [] (gn_upF σ o1 (va_cpy (σ o0) (σ o1) sp.toNatClampNeg dp.toNatClampNeg k.toNatClampNeg)) Q
                | _, _ => False)
              | _ => False)
            else False
        | .ireturn => match st with
          | [.int x] => ((gn_meta.getD mi (⟨"", "", ""⟩, prog_1_method_1_code, 0, none, false, 0, 0)).2.2.2.1 = some .int ∨ x = 0 ∨ x = 1) ∧ Q (some (.int x)) σ
          | _ => False
        | .areturn => match st with
          | [.ref o] => Q (some (.ref o)) σ
          | _ => False
        | .return_ => match st with
          | [] => Q none σ
          | _ => False
        | _ => False
/-- is an entry what the bytes decode to, and does it fit its links -/
def gn_okE (mi pc : Nat) (E : gn_En) : Bool := match gn_meta[mi]?, E with
  | none, _ => false
  | some (_, bytes, ml, rt, _, _, oc), (ins, nx, a, b, v) =>
    decide (decode bytes pc = .ok (ins, nx - pc)) && (match ins with
    | .aload_n k => Nat.beq nx (pc + 1) && Nat.beq k.val a
    | .iload_n k => Nat.beq nx (pc + 1) && Nat.beq k.val a
    | .lload_n k => Nat.beq nx (pc + 1) && Nat.beq k.val a
    | .istore_n k => Nat.beq nx (pc + 1) && Nat.beq k.val a && Nat.blt a ml
    | .astore_n k => Nat.beq nx (pc + 1) && Nat.beq k.val a && Nat.blt a ml
    | .lstore_n k => Nat.beq nx (pc + 1) && Nat.beq k.val a && Nat.blt (a + 1) ml
    | .iload i => Nat.beq nx (pc + 2) && Nat.beq i a
    | .istore i => Nat.beq nx (pc + 2) && Nat.beq i a && Nat.blt a ml
    | .iinc i n => Nat.beq nx (pc + 3) && Nat.beq i a && Nat.blt a ml && decide (Int32.ofInt n = v)
    | .iconst n => Nat.beq nx (pc + 1) && decide (Int32.ofInt n = v)
    | .bipush n => Nat.beq nx (pc + 2) && decide ((Int8.ofInt n).toInt32 = v)
    | .sipush n => Nat.beq nx (pc + 3) && decide ((Int16.ofInt n).toInt32 = v)
    | .ldc i => Nat.beq nx (pc + 2) && decide ((oc, i, v) ∈ gn_conT)
    | .ldc_w i => Nat.beq nx (pc + 3) && decide ((oc, i, v) ∈ gn_conT)
    | .ldc2_w i => Nat.beq nx (pc + 3) && decide ((oc, i, b) ∈ gn_lonT)
    | .goto off => Nat.beq nx (pc + 3) && decide ((pc : Int) + off = (a : Int))
    | .ifCond _ off => Nat.beq nx (pc + 3) && decide ((pc : Int) + off = (a : Int))
    | .if_icmp _ off => Nat.beq nx (pc + 3) && decide ((pc : Int) + off = (a : Int))
    | .tableswitch dflt lo hi offs => decide (0 ≤ (pc : Int) + dflt) && offs.toList.all (fun q => decide (0 ≤ (pc : Int) + q)) && decide ((offs.size : Int) = hi - lo + 1)
    | .lookupswitch dflt ps => (ps.toList.zip (ps.toList.drop 1)).all (fun (a, next) => a.1 < next.1) && decide (0 ≤ (pc : Int) + dflt) && ps.toList.all (fun q => decide (0 ≤ (pc : Int) + q.2))
    | .getfield i => Nat.beq nx (pc + 3) && (decide ((oc, i, a, b, 0) ∈ gn_fldT) || decide ((oc, i, a, b, 1) ∈ gn_fldT)) && Nat.blt a 13 && Nat.blt b (gn_cls.getD a ("", gn_T0, 0)).2.2
    | .putfield i => Nat.beq nx (pc + 3) && (decide ((oc, i, a, b, 0) ∈ gn_fldT) || decide ((oc, i, a, b, 1) ∈ gn_fldT)) && Nat.blt a 13 && Nat.blt b (gn_cls.getD a ("", gn_T0, 0)).2.2 && !(gn_Tf a b).2.2.2
    | .invokevirtual i => Nat.beq nx (pc + 3) && (decide (v = 0 ∧ (oc, i, a, 0) ∈ gn_mthT) || decide (v = 1 ∧ (oc, i, a, 1) ∈ gn_mthT)) && (match gn_meta[a]? with
      | some (_, _, _, _, st, ac, _) => !st && Nat.beq ac b
      | none => false)
    | .invokestatic i => Nat.beq nx (pc + 3) && ((decide (v = 0 ∧ (oc, i, 0, a) ∈ gn_sttT) && (match gn_meta[a]? with
      | some (_, _, _, _, st, ac, _) => st && Nat.beq ac b
      | none => false)) || decide (v = 1 ∧ (oc, i, 1, 0) ∈ gn_sttT) || decide (v = 2 ∧ (oc, i, 2, 0) ∈ gn_sttT) || decide (v = 3 ∧ (oc, i, 3, 0) ∈ gn_sttT))
    | .ireturn => Nat.beq nx (pc + 1) && (decide (rt = some .int) || decide (rt = some .boolean))
    | .return_ => Nat.beq nx (pc + 1) && decide (rt = none)
    | .areturn => Nat.beq nx (pc + 1) && (match rt with
      | some (.object _) => true
      | _ => false)
    | .iadd => Nat.beq nx (pc + 1)
    | .isub => Nat.beq nx (pc + 1)
    | .imul => Nat.beq nx (pc + 1)
    | .idiv => Nat.beq nx (pc + 1)
    | .irem => Nat.beq nx (pc + 1)
    | .iand => Nat.beq nx (pc + 1)
    | .ior => Nat.beq nx (pc + 1)
    | .ixor => Nat.beq nx (pc + 1)
    | .ishl => Nat.beq nx (pc + 1)
    | .ishr => Nat.beq nx (pc + 1)
    | .iushr => Nat.beq nx (pc + 1)
    | .ladd => Nat.beq nx (pc + 1)
    | .lmul => Nat.beq nx (pc + 1)
    | .ldiv => Nat.beq nx (pc + 1)
    | .lrem => Nat.beq nx (pc + 1)
    | .land => Nat.beq nx (pc + 1)
    | .i2l => Nat.beq nx (pc + 1)
    | .l2i => Nat.beq nx (pc + 1)
    | .dup => Nat.beq nx (pc + 1)
    | .dup2 => Nat.beq nx (pc + 1)
    | .pop => Nat.beq nx (pc + 1)
    | .iaload => Nat.beq nx (pc + 1)
    | .baload => Nat.beq nx (pc + 1)
    | .iastore => Nat.beq nx (pc + 1)
    | .bastore => Nat.beq nx (pc + 1)
    | _ => false)
def gn_okO (mi pc : Nat) : Option gn_En → Bool
  | none => true
  | some E => gn_okE mi pc E
