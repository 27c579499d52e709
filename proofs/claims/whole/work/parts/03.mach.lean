/-! A SMALLER MACHINE: the methods by numbers, a frame as lists, the heap by numbers of cells (0 is the script): its runs are the real machine's (part 04); what the program answers is then shown of it alone -/
/-- a cell: an int array (length, contents); an array of references (which kind, length, contents); an object (class, fields) -/
abbrev tw_C : Type := (Nat × (Nat → Int32)) ⊕ ((Nat × Nat × (Nat → Option Nat)) ⊕ (Nat × List Value))
/-- how many cells, how many slots were made, what the cells hold -/
abbrev tw_H : Type := Nat × Nat × (Nat → Option tw_C)
abbrev tw_Q : Type := Option Value × tw_H
abbrev tw_S : Type := Nat × Nat × List Value × List Value × tw_H
abbrev tw_O : Type := tw_Q ⊕ (tw_S ⊕ (tw_S × (Nat × Nat × List Value × List Value)))
def tw_set (h : tw_H) (a : Nat) (e : tw_C) : tw_H := (h.1, h.2.1, fun j => if j = a then some e else h.2.2 j)
def tw_new (h : tw_H) (e : tw_C) (n : Nat) : tw_H := (h.1 + 1, h.2.1 + n, fun j => if j = h.1 then some e else h.2.2 j)
def tw_nx (mi pc : Nat) (L S : List Value) (h : tw_H) : Option tw_O := some (.inr (.inl (mi, pc, L, S, h)))
def tw_g {α : Type} (b : Bool) (o : Option α) : Option α := if b = true then o else none
def tw_asI : Value → Option Int32
  | .int x => some x
  | _ => none
def tw_asL : Value → Option Int64
  | .long x => some x
  | _ => none
def tw_asA : Value → Option Value
  | .ref a => some (.ref a)
  | .null => some .null
  | _ => none
def tw_pI : List Value → Option (Int32 × List Value)
  | .int x :: T => some (x, T)
  | _ => none
def tw_pL : List Value → Option (Int64 × List Value)
  | .long x :: T => some (x, T)
  | _ => none
def tw_pR : List Value → Option (Nat × List Value)
  | .ref x :: T => some (x, T)
  | _ => none
def tw_pV : List Value → Option (Value × List Value)
  | v :: T => some (v, T)
  | _ => none
/-- the locals: a place that is unset, or a long's second half, is retAddr 0 -/
def tw_un : Value := .retAddr 0
def tw_st (L : List Value) (i : Nat) (v : Value) : Option (List Value) :=
  tw_g (decide (i < L.length) && (match i with | 0 => true | j + 1 => decide ((L.getD j tw_un).category ≠ 2))) (some (L.set i v))
def tw_st2 (L : List Value) (i : Nat) (v : Value) : Option (List Value) :=
  tw_g (decide (i + 1 < L.length) && (match i with | 0 => true | j + 1 => decide ((L.getD j tw_un).category ≠ 2))) (some ((L.set i v).set (i + 1) tw_un))
def tw_cmp (k : Jvm.ClassFile.Cond) (x y : Int32) : Bool := match k with
  | .eq => decide (x = y)
  | .ne => decide (¬ x = y)
  | .lt => decide (x < y)
  | .ge => decide (y ≤ x)
  | .gt => decide (y < x)
  | .le => decide (x ≤ y)
/-- where a jump goes -/
def tw_to (pc : Nat) (off : Int) (k : Nat → Option tw_O) : Option tw_O := tw_g (decide (0 ≤ (pc : Int) + off)) (k ((pc : Int) + off).toNat)
/-- the locals with which a method begins -/
def tw_ea : List Value → List Value
  | [] => []
  | v :: vs => if v.category = 2 then v :: tw_un :: tw_ea vs else v :: tw_ea vs
def tw_en (mi : Nat) (vs : List Value) : List Value := tw_ea vs ++ List.replicate (tw_ml mi - (tw_ea vs).length) tw_un
def tw_ct (S : List Value) : Nat := (S.map fun v => v.category).sum
def tw_inv (mi pc : Nat) (L rest : List Value) (h : tw_H) (t : Nat) (vs : List Value) : Option tw_O :=
  tw_g (decide (tw_ct rest ≤ 8) && (decide (tw_rk t < tw_rk mi) && decide ((tw_ea vs).length ≤ tw_ml t))) (some (.inr (.inr ((t, 0, tw_en t vs, [], h), (mi, pc + 3, L, rest)))))
def tw_nb (mi : Nat) (x : Int32) : Bool := match tw_rt mi with
  | some .int => true
  | some .boolean => decide (x = 0) || decide (x = 1)
  | _ => false
def tw_isL (mi : Nat) : Bool := match tw_rt mi with
  | some .long => true
  | _ => false
def tw_isA (mi : Nat) : Bool := match tw_rt mi with
  | some (.object _) => true
  | _ => false
def tw_isV (mi : Nat) : Bool := match tw_rt mi with
  | none => true
  | _ => false
def tw_fit (t : FieldType) (v : Value) : Bool := match t, v with
  | .int, .int _ => true
  | .object _, .ref _ => true
  | .object _, .null => true
  | .array _, .ref _ => true
  | .array _, .null => true
  | _, _ => false
/-- a field of this kind of object may be written by this method -/
def tw_pok (mi c k : Nat) : Bool := decide ((tw_T c k).2.2.2 = false) || (decide ((tw_y mi).name = "<init>") && decide ((tw_T c k).1 = tw_R (tw_ow mi)))
def tw_vi (i : Int32) (n : Nat) : Bool := decide (0 ≤ i) && decide (i.toNatClampNeg < n)
def tw_rf : Option Nat → Value
  | none => .null
  | some a => .ref a
/-- what may be put into an array of references -/
def tw_el (h : tw_H) (t : Nat) (v : Value) : Option (Option Nat) := match v with
  | .null => some none
  | .ref b => (match h.2.2 b with
    | some (.inr (.inr (c, _))) => if (t = 1 ∧ c = 3) ∨ (t = 2 ∧ (c = 9 ∨ c = 0 ∨ c = 4)) then some (some b) else none
    | _ => none)
  | _ => none
def tw_do (mi pc : Nat) (L S : List Value) (h : tw_H) (len : Nat) : Instr → Option tw_O
  | .iconst n => tw_g (len == 1) (tw_nx mi (pc + 1) L (.int (Int32.ofInt n) :: S) h)
  | .bipush n => tw_g (len == 2) (tw_nx mi (pc + 2) L (.int (Int8.ofInt n).toInt32 :: S) h)
  | .sipush n => tw_g (len == 3) (tw_nx mi (pc + 3) L (.int (Int16.ofInt n).toInt32 :: S) h)
  | .lconst n => tw_g (len == 1) (tw_nx mi (pc + 1) L (.long (Int64.ofNat (n : Nat)) :: S) h)
  | .ldc2_w i => tw_g (len == 3) ((tw_ll (tw_ow mi) i).bind fun q => tw_nx mi (pc + 3) L (.long q.2.1 :: S) h)
  | .ldc_w i => tw_g (len == 3) ((tw_li (tw_ow mi) i).bind fun q => tw_nx mi (pc + 3) L (.int q.2.1 :: S) h)
  | .aconst_null => tw_g (len == 1) (tw_nx mi (pc + 1) L (.null :: S) h)
  | .iload_n k => tw_g (len == 1) ((L[(k : Nat)]?.bind tw_asI).bind fun x => tw_nx mi (pc + 1) L (.int x :: S) h)
  | .iload i => tw_g (len == 2) ((L[i]?.bind tw_asI).bind fun x => tw_nx mi (pc + 2) L (.int x :: S) h)
  | .lload_n k => tw_g (len == 1) ((L[(k : Nat)]?.bind tw_asL).bind fun x => tw_nx mi (pc + 1) L (.long x :: S) h)
  | .lload i => tw_g (len == 2) ((L[i]?.bind tw_asL).bind fun x => tw_nx mi (pc + 2) L (.long x :: S) h)
  | .aload_n k => tw_g (len == 1) ((L[(k : Nat)]?.bind tw_asA).bind fun x => tw_nx mi (pc + 1) L (x :: S) h)
  | .aload i => tw_g (len == 2) ((L[i]?.bind tw_asA).bind fun x => tw_nx mi (pc + 2) L (x :: S) h)
  | .istore_n k => tw_g (len == 1) ((tw_pI S).bind fun q => (tw_st L (k : Nat) (.int q.1)).bind fun L' => tw_nx mi (pc + 1) L' q.2 h)
  | .istore i => tw_g (len == 2) ((tw_pI S).bind fun q => (tw_st L i (.int q.1)).bind fun L' => tw_nx mi (pc + 2) L' q.2 h)
  | .lstore_n k => tw_g (len == 1) ((tw_pL S).bind fun q => (tw_st2 L (k : Nat) (.long q.1)).bind fun L' => tw_nx mi (pc + 1) L' q.2 h)
  | .lstore i => tw_g (len == 2) ((tw_pL S).bind fun q => (tw_st2 L i (.long q.1)).bind fun L' => tw_nx mi (pc + 2) L' q.2 h)
  | .astore_n k => tw_g (len == 1) ((tw_pV S).bind fun q => (tw_asA q.1).bind fun v => (tw_st L (k : Nat) v).bind fun L' => tw_nx mi (pc + 1) L' q.2 h)
  | .astore i => tw_g (len == 2) ((tw_pV S).bind fun q => (tw_asA q.1).bind fun v => (tw_st L i v).bind fun L' => tw_nx mi (pc + 2) L' q.2 h)
  | .iinc i n => tw_g (len == 3) ((L[i]?.bind tw_asI).bind fun x => (tw_st L i (.int (x + Int32.ofInt n))).bind fun L' => tw_nx mi (pc + 3) L' S h)
  | .iadd => tw_g (len == 1) ((tw_pI S).bind fun y => (tw_pI y.2).bind fun x => tw_nx mi (pc + 1) L (.int (x.1 + y.1) :: x.2) h)
  | .isub => tw_g (len == 1) ((tw_pI S).bind fun y => (tw_pI y.2).bind fun x => tw_nx mi (pc + 1) L (.int (x.1 - y.1) :: x.2) h)
  | .imul => tw_g (len == 1) ((tw_pI S).bind fun y => (tw_pI y.2).bind fun x => tw_nx mi (pc + 1) L (.int (x.1 * y.1) :: x.2) h)
  | .idiv => tw_g (len == 1) ((tw_pI S).bind fun y => (tw_pI y.2).bind fun x => tw_g (decide (¬ y.1 = 0)) (tw_nx mi (pc + 1) L (.int (x.1 / y.1) :: x.2) h))
  | .irem => tw_g (len == 1) ((tw_pI S).bind fun y => (tw_pI y.2).bind fun x => tw_g (decide (¬ y.1 = 0)) (tw_nx mi (pc + 1) L (.int (x.1 - x.1 / y.1 * y.1) :: x.2) h))
  | .iand => tw_g (len == 1) ((tw_pI S).bind fun y => (tw_pI y.2).bind fun x => tw_nx mi (pc + 1) L (.int (x.1 &&& y.1) :: x.2) h)
  | .ior => tw_g (len == 1) ((tw_pI S).bind fun y => (tw_pI y.2).bind fun x => tw_nx mi (pc + 1) L (.int (x.1 ||| y.1) :: x.2) h)
  | .ixor => tw_g (len == 1) ((tw_pI S).bind fun y => (tw_pI y.2).bind fun x => tw_nx mi (pc + 1) L (.int (x.1 ^^^ y.1) :: x.2) h)
  | .ishl => tw_g (len == 1) ((tw_pI S).bind fun y => (tw_pI y.2).bind fun x => tw_nx mi (pc + 1) L (.int (x.1 <<< (y.1 &&& 31)) :: x.2) h)
  | .ishr => tw_g (len == 1) ((tw_pI S).bind fun y => (tw_pI y.2).bind fun x => tw_nx mi (pc + 1) L (.int (x.1 >>> (y.1 &&& 31)) :: x.2) h)
  | .iushr => tw_g (len == 1) ((tw_pI S).bind fun y => (tw_pI y.2).bind fun x => tw_nx mi (pc + 1) L (.int (x.1.toUInt32 >>> (y.1.toUInt32 &&& Int32.toUInt32 31)).toInt32 :: x.2) h)
  | .ladd => tw_g (len == 1) ((tw_pL S).bind fun y => (tw_pL y.2).bind fun x => tw_nx mi (pc + 1) L (.long (x.1 + y.1) :: x.2) h)
  | .lsub => tw_g (len == 1) ((tw_pL S).bind fun y => (tw_pL y.2).bind fun x => tw_nx mi (pc + 1) L (.long (x.1 - y.1) :: x.2) h)
  | .lmul => tw_g (len == 1) ((tw_pL S).bind fun y => (tw_pL y.2).bind fun x => tw_nx mi (pc + 1) L (.long (x.1 * y.1) :: x.2) h)
  | .ldiv => tw_g (len == 1) ((tw_pL S).bind fun y => (tw_pL y.2).bind fun x => tw_g (decide (¬ y.1 = 0)) (tw_nx mi (pc + 1) L (.long (x.1 / y.1) :: x.2) h))
  | .lrem => tw_g (len == 1) ((tw_pL S).bind fun y => (tw_pL y.2).bind fun x => tw_g (decide (¬ y.1 = 0)) (tw_nx mi (pc + 1) L (.long (x.1 - x.1 / y.1 * y.1) :: x.2) h))
  | .lcmp => tw_g (len == 1) ((tw_pL S).bind fun y => (tw_pL y.2).bind fun x => tw_nx mi (pc + 1) L (.int (lg_cmp x.1 y.1) :: x.2) h)
  | .i2l => tw_g (len == 1) ((tw_pI S).bind fun x => tw_nx mi (pc + 1) L (.long x.1.toInt64 :: x.2) h)
  | .i2b => tw_g (len == 1) ((tw_pI S).bind fun x => tw_nx mi (pc + 1) L (.int x.1.toInt8.toInt32 :: x.2) h)
  | .i2s => tw_g (len == 1) ((tw_pI S).bind fun x => tw_nx mi (pc + 1) L (.int x.1.toInt16.toInt32 :: x.2) h)
  | .dup => tw_g (len == 1) ((tw_pV S).bind fun x => tw_g (decide (x.1.category = 1)) (tw_nx mi (pc + 1) L (x.1 :: x.1 :: x.2) h))
  | .dup_x1 => tw_g (len == 1) ((tw_pV S).bind fun x => (tw_pV x.2).bind fun y => tw_g (decide (x.1.category = 1) && decide (y.1.category = 1)) (tw_nx mi (pc + 1) L (x.1 :: y.1 :: x.1 :: y.2) h))
  | .dup2 => tw_g (len == 1) ((tw_pV S).bind fun x => (tw_pV x.2).bind fun y => tw_g (decide (x.1.category = 1) && decide (y.1.category = 1)) (tw_nx mi (pc + 1) L (x.1 :: y.1 :: x.1 :: y.1 :: y.2) h))
  | .ifCond c off => tw_g (len == 3) ((tw_pI S).bind fun x => tw_to pc off fun t => if tw_cmp c x.1 0 = true then tw_nx mi t L x.2 h else tw_nx mi (pc + 3) L x.2 h)
  | .if_icmp c off => tw_g (len == 3) ((tw_pI S).bind fun y => (tw_pI y.2).bind fun x => tw_to pc off fun t => if tw_cmp c x.1 y.1 = true then tw_nx mi t L x.2 h else tw_nx mi (pc + 3) L x.2 h)
  | .goto off => tw_g (len == 3) (tw_to pc off (fun t => tw_nx mi t L S h))
  | .ifnull off => tw_g (len == 3) ((tw_pV S).bind fun x => (tw_asA x.1).bind fun v => if v = .null then tw_to pc off (fun t => tw_nx mi t L x.2 h) else tw_nx mi (pc + 3) L x.2 h)
  | .ifnonnull off => tw_g (len == 3) ((tw_pV S).bind fun x => (tw_asA x.1).bind fun v => if v = .null then tw_nx mi (pc + 3) L x.2 h else tw_to pc off (fun t => tw_nx mi t L x.2 h))
  | .tableswitch d lo hi offs => (tw_pI S).bind fun x => if x.1.toInt < lo ∨ hi < x.1.toInt then tw_to pc d (fun t => tw_nx mi t L x.2 h) else (offs[(x.1.toInt - lo).toNat]?).bind fun off => tw_to pc off (fun t => tw_nx mi t L x.2 h)
  | .lookupswitch d ps => tw_g ((ps.toList.zip (ps.toList.drop 1)).all (fun (a, next) => a.1 < next.1)) ((tw_pI S).bind fun x => tw_to pc (Op.lookupswitch.offset ps.toList d x.1.toInt) (fun t => tw_nx mi t L x.2 h))
  | .ireturn => tw_g (len == 1) (match S with | [.int x] => tw_g (tw_nb mi x) (some (.inl (some (.int x), h))) | _ => none)
  | .lreturn => tw_g (len == 1) (match S with | [.long x] => tw_g (tw_isL mi) (some (.inl (some (.long x), h))) | _ => none)
  | .areturn => tw_g (len == 1) (match S with | [v] => (tw_asA v).bind fun v => tw_g (tw_isA mi) (some (.inl (some v, h))) | _ => none)
  | .return_ => tw_g (len == 1) (match S with | [] => tw_g (tw_isV mi) (some (.inl (none, h))) | _ => none)
  | .new i => tw_g (len == 3) ((tw_nw (tw_ow mi) i).bind fun q => tw_nx mi (pc + 3) L (.ref h.1 :: S) (tw_new h (.inr (.inr (q.2.1, tw_df q.2.1))) (tw_N q.2.1)))
  | .newarray .int => tw_g (len == 2) ((tw_pI S).bind fun n => tw_g (decide (0 ≤ n.1) && decide (n.1.toNatClampNeg ≤ 1000)) (tw_nx mi (pc + 2) L (.ref h.1 :: n.2) (tw_new h (.inl (n.1.toNatClampNeg, fun _ => 0)) n.1.toNatClampNeg)))
  | .anewarray i => tw_g (len == 3) ((tw_aw (tw_ow mi) i).bind fun q => (tw_pI S).bind fun n => tw_g (decide (0 ≤ n.1) && decide (n.1.toNatClampNeg ≤ 1000)) (tw_nx mi (pc + 3) L (.ref h.1 :: n.2) (tw_new h (.inr (.inl (q.2.1, n.1.toNatClampNeg, fun _ => none))) n.1.toNatClampNeg)))
  | .getfield i => tw_g (len == 3) ((tw_fe (tw_ow mi) i).bind fun q => (tw_pR S).bind fun a => tw_g (decide (a.1 ≠ 0)) (match h.2.2 a.1 with
    | some (.inr (.inr (c, fs))) => tw_g (decide (c ∈ q.2.2.2)) ((fs[q.2.2.1]?).bind fun v => tw_nx mi (pc + 3) L (v :: a.2) h)
    | _ => none))
  | .putfield i => tw_g (len == 3) ((tw_fe (tw_ow mi) i).bind fun q => (tw_pV S).bind fun v => (tw_pR v.2).bind fun a => tw_g (decide (a.1 ≠ 0)) (match h.2.2 a.1 with
    | some (.inr (.inr (c, fs))) => tw_g (decide (c ∈ q.2.2.2) && (tw_fit (tw_t c q.2.2.1) v.1 && (tw_pok mi c q.2.2.1 && decide (q.2.2.1 < fs.length)))) (tw_nx mi (pc + 3) L a.2 (tw_set h a.1 (.inr (.inr (c, fs.set q.2.2.1 v.1)))))
    | _ => none))
  | .iaload => tw_g (len == 1) ((tw_pI S).bind fun i => (tw_pR i.2).bind fun a => match h.2.2 a.1 with
    | some (.inl (n, f)) => tw_g (tw_vi i.1 n) (tw_nx mi (pc + 1) L (.int (f i.1.toNatClampNeg) :: a.2) h)
    | _ => none)
  | .iastore => tw_g (len == 1) ((tw_pI S).bind fun x => (tw_pI x.2).bind fun i => (tw_pR i.2).bind fun a => tw_g (decide (a.1 ≠ 0)) (match h.2.2 a.1 with
    | some (.inl (n, f)) => tw_g (tw_vi i.1 n) (tw_nx mi (pc + 1) L a.2 (tw_set h a.1 (.inl (n, upd f i.1.toNatClampNeg x.1))))
    | _ => none))
  | .aaload => tw_g (len == 1) ((tw_pI S).bind fun i => (tw_pR i.2).bind fun a => tw_g (decide (a.1 ≠ 0)) (match h.2.2 a.1 with
    | some (.inr (.inl (t, n, f))) => tw_g (tw_vi i.1 n && (decide (t = 1) || decide (t = 2))) (tw_nx mi (pc + 1) L (tw_rf (f i.1.toNatClampNeg) :: a.2) h)
    | _ => none))
  | .aastore => tw_g (len == 1) ((tw_pV S).bind fun v => (tw_pI v.2).bind fun i => (tw_pR i.2).bind fun a => tw_g (decide (a.1 ≠ 0) && decide (v.1 ≠ .ref 0)) (match h.2.2 a.1 with
    | some (.inr (.inl (t, n, f))) => tw_g (tw_vi i.1 n && (decide (t = 1) || decide (t = 2))) ((tw_el h t v.1).bind fun o => tw_nx mi (pc + 1) L a.2 (tw_set h a.1 (.inr (.inl (t, n, va_up f i.1.toNatClampNeg o)))))
    | _ => none))
  | .arraylength => tw_g (len == 1) ((tw_pR S).bind fun a => match h.2.2 a.1 with
    | some (.inl (n, _)) => tw_nx mi (pc + 1) L (.int (Int32.ofNat n) :: a.2) h
    | some (.inr (.inl (t, n, _))) => tw_g (decide (a.1 ≠ 0) && (decide (t = 1) || decide (t = 2))) (tw_nx mi (pc + 1) L (.int (Int32.ofNat n) :: a.2) h)
    | _ => none)
  | .invokestatic i => tw_g (len == 3) ((tw_ce (tw_ow mi) i).bind fun q => match q.2.1 with
    | 0 => tw_g (decide (q.2.2.1 ≤ S.length)) (tw_inv mi pc L (S.drop q.2.2.1) h (tw_hd q) (S.take q.2.2.1).reverse)
    | 1 => tw_g (decide (q.2.2.1 ≤ S.length)) (tw_inv mi pc L (S.drop q.2.2.1) h (tw_hd q) (S.take q.2.2.1).reverse)
    | 11 => (tw_pI S).bind fun y => (tw_pI y.2).bind fun x => tw_g (decide (tw_ct x.2 ≤ 8) && decide (0 < tw_rk mi)) (tw_nx mi (pc + 3) L (.int (if x.1 < y.1 then y.1 else x.1) :: x.2) h)
    | 12 => (tw_pI S).bind fun y => (tw_pI y.2).bind fun x => tw_g (decide (tw_ct x.2 ≤ 8) && decide (0 < tw_rk mi)) (tw_nx mi (pc + 3) L (.int (if y.1 < x.1 then y.1 else x.1) :: x.2) h)
    | 13 => (tw_pI S).bind fun n => (tw_pI n.2).bind fun dp => (tw_pR dp.2).bind fun b => (tw_pI b.2).bind fun sp => (tw_pR sp.2).bind fun a => tw_g (decide (a.1 ≠ 0) && (decide (b.1 ≠ 0) && (decide (tw_ct a.2 ≤ 8) && decide (0 < tw_rk mi)))) (match h.2.2 a.1, h.2.2 b.1 with
      | some (.inl (n0, f)), some (.inl (n1, g)) => tw_g (decide (0 ≤ n.1) && (decide (0 ≤ dp.1) && (decide (0 ≤ sp.1) && (decide (sp.1.toNatClampNeg + n.1.toNatClampNeg ≤ n0) && decide (dp.1.toNatClampNeg + n.1.toNatClampNeg ≤ n1))))) (tw_nx mi (pc + 3) L a.2 (tw_set h b.1 (.inl (n1, va_cpy f g sp.1.toNatClampNeg dp.1.toNatClampNeg n.1.toNatClampNeg))))
      | _, _ => none)
    | _ => none)
  | .invokespecial i => tw_g (len == 3) ((tw_ce (tw_ow mi) i).bind fun q => (tw_pR (S.drop q.2.2.1)).bind fun a => tw_g (decide (a.1 ≠ 0)) (match q.2.1 with
    | 2 => tw_inv mi pc L a.2 h (tw_hd q) (.ref a.1 :: (S.take q.2.2.1).reverse)
    | 3 => tw_inv mi pc L a.2 h (tw_hd q) (.ref a.1 :: (S.take q.2.2.1).reverse)
    | 4 => (match h.2.2 a.1 with
      | some (.inr (.inr (c, _))) => tw_g (decide (c < 12)) (tw_inv mi pc L a.2 h (tw_hd q) (.ref a.1 :: (S.take q.2.2.1).reverse))
      | _ => none)
    | 10 => tw_g (decide (tw_ct a.2 ≤ 8) && (decide (0 < tw_rk mi) && decide (q.2.2.1 = 0))) (tw_nx mi (pc + 3) L a.2 h)
    | _ => none))
  | .invokevirtual i => tw_g (len == 3) ((tw_ce (tw_ow mi) i).bind fun q => (tw_pR (S.drop q.2.2.1)).bind fun a => tw_g (decide (a.1 ≠ 0) && (decide (q.2.1 = 5) || decide (q.2.1 = 6))) (match h.2.2 a.1 with
    | some (.inr (.inr (c, _))) => (q.2.2.2.1.lookup c).bind fun t => tw_inv mi pc L a.2 h t (.ref a.1 :: (S.take q.2.2.1).reverse)
    | _ => none))
  | _ => none
def tw_stp (σ : tw_S) : Option tw_O := match decode (tw_c σ.1) σ.2.1 with
  | .ok (ins, len) => tw_do σ.1 σ.2.1 σ.2.2.1 σ.2.2.2.1 σ.2.2.2.2 len ins
  | .error _ => none
def tw_run : Nat → tw_S → Option tw_Q
  | 0, _ => none
  | F + 1, σ => match tw_stp σ with
    | none => none
    | some (.inl r) => some r
    | some (.inr (.inl σ')) => tw_run F σ'
    | some (.inr (.inr (σ1, k))) => (tw_run F σ1).bind fun r => tw_run F (k.1, k.2.1, k.2.2.1, r.1.toList ++ k.2.2.2, r.2)
theorem tw_run_mono : ∀ (F : Nat) (σ : tw_S) (r : tw_Q), tw_run F σ = some r → ∀ G, F ≤ G → tw_run G σ = some r
  | 0, σ, r, h, _, _ => by simp [tw_run] at h
  | F + 1, σ, r, h, 0, hG => by omega
  | F + 1, σ, r, h, G + 1, hG => by
    have ih := tw_run_mono F
    simp only [tw_run] at h ⊢
    cases hs : tw_stp σ with
    | none => rw [hs] at h; exact h
    | some o =>
      rw [hs] at h
      rcases o with x | σ' | ⟨σ1, k⟩
      · exact h
      · exact ih _ _ h G (by omega)
      · simp only at h ⊢
        obtain ⟨r1, h1, h2⟩ := Option.bind_eq_some_iff.mp h
        rw [ih _ _ h1 G (by omega)]
        exact ih _ _ h2 G (by omega)
noncomputable def tw_B (σ : tw_S) : Option tw_Q := @dite (Option tw_Q) (∃ F, (tw_run F σ).isSome = true) (Classical.propDecidable _) (fun h => tw_run h.choose σ) (fun _ => none)
theorem tw_B_iff {σ : tw_S} {r : tw_Q} : tw_B σ = some r ↔ ∃ F, tw_run F σ = some r := by
  constructor
  · intro h
    unfold tw_B at h
    split at h
    · exact ⟨_, h⟩
    · cases h
  · rintro ⟨F, h⟩
    have hx : ∃ F, (tw_run F σ).isSome = true := ⟨F, by rw [h]; rfl⟩
    unfold tw_B
    rw [dif_pos hx]
    obtain ⟨r2, h2⟩ := Option.isSome_iff_exists.mp hx.choose_spec
    have a := tw_run_mono _ _ _ h2 (max F hx.choose) (Nat.le_max_right _ _)
    have b := tw_run_mono _ _ _ h (max F hx.choose) (Nat.le_max_left _ _)
    rw [h2]
    exact a.symm.trans b
theorem tw_B_ext {a b : Option tw_Q} (h : ∀ r, a = some r ↔ b = some r) : a = b := by
  cases a with
  | none => cases b with
    | none => rfl
    | some y => exact ((h y).mpr rfl)
  | some x => exact ((h x).mp rfl).symm
theorem tw_B_eq (σ : tw_S) : tw_B σ = match tw_stp σ with
    | none => none
    | some (.inl r) => some r
    | some (.inr (.inl σ')) => tw_B σ'
    | some (.inr (.inr (σ1, k))) => (tw_B σ1).bind fun r => tw_B (k.1, k.2.1, k.2.2.1, r.1.toList ++ k.2.2.2, r.2) := by
  apply tw_B_ext
  intro r
  rw [tw_B_iff]
  constructor
  · rintro ⟨F, h⟩
    cases F with
    | zero => simp [tw_run] at h
    | succ F =>
      simp only [tw_run] at h
      cases hs : tw_stp σ with
      | none => rw [hs] at h; exact h
      | some o =>
        rw [hs] at h
        rcases o with x | σ' | ⟨σ1, k⟩
        · exact h
        · exact tw_B_iff.mpr ⟨F, h⟩
        · simp only at h ⊢
          obtain ⟨r1, h1, h2⟩ := Option.bind_eq_some_iff.mp h
          rw [tw_B_iff.mpr ⟨F, h1⟩]
          exact tw_B_iff.mpr ⟨F, h2⟩
  · intro h
    cases hs : tw_stp σ with
    | none => rw [hs] at h; cases h
    | some o =>
      rw [hs] at h
      rcases o with x | σ' | ⟨σ1, k⟩
      · exact ⟨1, by simp only [tw_run, hs]; exact h⟩
      · obtain ⟨F, hF⟩ := tw_B_iff.mp h
        exact ⟨F + 1, by simp only [tw_run, hs]; exact hF⟩
      · simp only at h
        obtain ⟨r1, h1, h2⟩ := Option.bind_eq_some_iff.mp h
        obtain ⟨F1, g1⟩ := tw_B_iff.mp h1
        obtain ⟨F2, g2⟩ := tw_B_iff.mp h2
        refine ⟨max F1 F2 + 1, ?_⟩
        simp only [tw_run, hs]
        rw [tw_run_mono _ _ _ g1 _ (Nat.le_max_left _ _)]
        exact tw_run_mono _ _ _ g2 _ (Nat.le_max_right _ _)
/-- what a frame's run answers, with the heap behind it; none, if it doesn't end -/
noncomputable def tw_b (mi pc : Nat) (L S : List Value) (h : tw_H) : Option tw_Q := tw_B (mi, pc, L, S, h)
theorem tw_b_st {mi pc len : Nat} {ins : Instr} (hd : decode (tw_c mi) pc = .ok (ins, len)) (L S : List Value) (h : tw_H) : tw_b mi pc L S h = match tw_do mi pc L S h len ins with
    | none => none
    | some (.inl r) => some r
    | some (.inr (.inl σ')) => tw_b σ'.1 σ'.2.1 σ'.2.2.1 σ'.2.2.2.1 σ'.2.2.2.2
    | some (.inr (.inr (σ1, k))) => (tw_b σ1.1 σ1.2.1 σ1.2.2.1 σ1.2.2.2.1 σ1.2.2.2.2).bind fun r => tw_b k.1 k.2.1 k.2.2.1 (r.1.toList ++ k.2.2.2) r.2 := by
  show tw_B _ = _
  rw [tw_B_eq]
  simp only [tw_stp, hd]
  rfl
