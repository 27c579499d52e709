/-! THE SMALL MACHINE BY EQUATIONS: one for each kind of instruction -/
def tw_gf (h : tw_H) (a : Nat) (cs : List Nat) (k : Nat) : Option Value := match h.2.2 a with
  | some (.inr (.inr (c, fs))) => if a ≠ 0 ∧ c ∈ cs then fs[k]? else none
  | _ => none
def tw_sf (h : tw_H) (a : Nat) (cs : List Nat) (k : Nat) (t : FieldType) (v : Value) : Option tw_H := match h.2.2 a with
  | some (.inr (.inr (c, fs))) => if a ≠ 0 ∧ c ∈ cs ∧ tw_fit t v = true ∧ k < fs.length then some (tw_set h a (.inr (.inr (c, fs.set k v)))) else none
  | _ => none
def tw_ia (h : tw_H) (a : Nat) (i : Int32) : Option Value := match h.2.2 a with
  | some (.inl (n, f)) => if tw_vi i n = true then some (.int (f i.toNatClampNeg)) else none
  | _ => none
def tw_ix (h : tw_H) (a : Nat) (i x : Int32) : Option tw_H := match h.2.2 a with
  | some (.inl (n, f)) => if a ≠ 0 ∧ tw_vi i n = true then some (tw_set h a (.inl (n, upd f i.toNatClampNeg x))) else none
  | _ => none
def tw_aa (h : tw_H) (a : Nat) (i : Int32) : Option Value := match h.2.2 a with
  | some (.inr (.inl (t, n, f))) => if a ≠ 0 ∧ tw_vi i n = true ∧ (t = 1 ∨ t = 2) then some (tw_rf (f i.toNatClampNeg)) else none
  | _ => none
def tw_ax (h : tw_H) (a : Nat) (i : Int32) (v : Value) : Option tw_H := match h.2.2 a with
  | some (.inr (.inl (t, n, f))) => if a ≠ 0 ∧ v ≠ .ref 0 ∧ tw_vi i n = true ∧ (t = 1 ∨ t = 2) then (tw_el h t v).bind fun o => some (tw_set h a (.inr (.inl (t, n, va_up f i.toNatClampNeg o)))) else none
  | _ => none
def tw_al (h : tw_H) (a : Nat) : Option Value := match h.2.2 a with
  | some (.inl (n, _)) => some (.int (Int32.ofNat n))
  | some (.inr (.inl (t, n, _))) => if a ≠ 0 ∧ (t = 1 ∨ t = 2) then some (.int (Int32.ofNat n)) else none
  | _ => none
def tw_co (h : tw_H) (a : Nat) : Option Nat := match h.2.2 a with
  | some (.inr (.inr (c, _))) => if a ≠ 0 then some c else none
  | _ => none
def tw_ac (h : tw_H) (a : Nat) (sp : Int32) (b : Nat) (dp n : Int32) : Option tw_H := match h.2.2 a, h.2.2 b with
  | some (.inl (n0, f)), some (.inl (n1, g)) => if a ≠ 0 ∧ b ≠ 0 ∧ 0 ≤ n ∧ 0 ≤ dp ∧ 0 ≤ sp ∧ sp.toNatClampNeg + n.toNatClampNeg ≤ n0 ∧ dp.toNatClampNeg + n.toNatClampNeg ≤ n1 then some (tw_set h b (.inl (n1, va_cpy f g sp.toNatClampNeg dp.toNatClampNeg n.toNatClampNeg))) else none
  | _, _ => none
def tw_ok (n : Int32) : Bool := decide (0 ≤ n) && decide (n.toNatClampNeg ≤ 1000)
section TWE
variable {mi pc : Nat} {L S : List Value} {h : tw_H}
theorem tw_e_iconst {n : Int} {v : Int32} (hd : decode (tw_c mi) pc = .ok (.iconst n, 1)) (hv : Int32.ofInt n = v) : tw_b mi pc L S h = tw_b mi (pc + 1) L (.int v :: S) h := by
  rw [tw_b_st hd, ← hv]; rfl
theorem tw_e_bipush {n : Int} {v : Int32} (hd : decode (tw_c mi) pc = .ok (.bipush n, 2)) (hv : (Int8.ofInt n).toInt32 = v) : tw_b mi pc L S h = tw_b mi (pc + 2) L (.int v :: S) h := by
  rw [tw_b_st hd, ← hv]; rfl
theorem tw_e_sipush {n : Int} {v : Int32} (hd : decode (tw_c mi) pc = .ok (.sipush n, 3)) (hv : (Int16.ofInt n).toInt32 = v) : tw_b mi pc L S h = tw_b mi (pc + 3) L (.int v :: S) h := by
  rw [tw_b_st hd, ← hv]; rfl
theorem tw_e_lconst {n : Fin 2} {v : Int64} (hd : decode (tw_c mi) pc = .ok (.lconst n, 1)) (hv : Int64.ofNat (n : Nat) = v) : tw_b mi pc L S h = tw_b mi (pc + 1) L (.long v :: S) h := by
  rw [tw_b_st hd, ← hv]; rfl
theorem tw_e_ldc2 {i : Nat} {v : Int64} (hd : decode (tw_c mi) pc = .ok (.ldc2_w i, 3)) (hv : (tw_ll (tw_ow mi) i).map (fun q => q.2.1) = some v) : tw_b mi pc L S h = tw_b mi (pc + 3) L (.long v :: S) h := by
  replace hv := Option.map_eq_some_iff.mp hv
  obtain ⟨q, hq, rfl⟩ := hv
  rw [tw_b_st hd]; simp [tw_do, tw_g, tw_nx, hq]
theorem tw_e_ldcw {i : Nat} {v : Int32} (hd : decode (tw_c mi) pc = .ok (.ldc_w i, 3)) (hv : (tw_li (tw_ow mi) i).map (fun q => q.2.1) = some v) : tw_b mi pc L S h = tw_b mi (pc + 3) L (.int v :: S) h := by
  replace hv := Option.map_eq_some_iff.mp hv
  obtain ⟨q, hq, rfl⟩ := hv
  rw [tw_b_st hd]; simp [tw_do, tw_g, tw_nx, hq]
theorem tw_e_null (hd : decode (tw_c mi) pc = .ok (.aconst_null, 1)) : tw_b mi pc L S h = tw_b mi (pc + 1) L (.null :: S) h := by
  rw [tw_b_st hd]; rfl
theorem tw_e_iload_n {k : Fin 4} {x : Int32} (hd : decode (tw_c mi) pc = .ok (.iload_n k, 1)) (hl : L[(k : Nat)]? = some (.int x)) : tw_b mi pc L S h = tw_b mi (pc + 1) L (.int x :: S) h := by
  rw [tw_b_st hd]; simp [tw_do, tw_g, tw_nx, hl, tw_asI]
theorem tw_e_iload {k : Nat} {x : Int32} (hd : decode (tw_c mi) pc = .ok (.iload k, 2)) (hl : L[k]? = some (.int x)) : tw_b mi pc L S h = tw_b mi (pc + 2) L (.int x :: S) h := by
  rw [tw_b_st hd]; simp [tw_do, tw_g, tw_nx, hl, tw_asI]
theorem tw_e_lload_n {k : Fin 4} {x : Int64} (hd : decode (tw_c mi) pc = .ok (.lload_n k, 1)) (hl : L[(k : Nat)]? = some (.long x)) : tw_b mi pc L S h = tw_b mi (pc + 1) L (.long x :: S) h := by
  rw [tw_b_st hd]; simp [tw_do, tw_g, tw_nx, hl, tw_asL]
theorem tw_e_lload {k : Nat} {x : Int64} (hd : decode (tw_c mi) pc = .ok (.lload k, 2)) (hl : L[k]? = some (.long x)) : tw_b mi pc L S h = tw_b mi (pc + 2) L (.long x :: S) h := by
  rw [tw_b_st hd]; simp [tw_do, tw_g, tw_nx, hl, tw_asL]
theorem tw_e_aload_n {k : Fin 4} {v : Value} (hd : decode (tw_c mi) pc = .ok (.aload_n k, 1)) (hl : L[(k : Nat)]? = some v) (hv : tw_asA v = some v) : tw_b mi pc L S h = tw_b mi (pc + 1) L (v :: S) h := by
  rw [tw_b_st hd]; simp [tw_do, tw_g, tw_nx, hl, hv]
theorem tw_e_aload {k : Nat} {v : Value} (hd : decode (tw_c mi) pc = .ok (.aload k, 2)) (hl : L[k]? = some v) (hv : tw_asA v = some v) : tw_b mi pc L S h = tw_b mi (pc + 2) L (v :: S) h := by
  rw [tw_b_st hd]; simp [tw_do, tw_g, tw_nx, hl, hv]
theorem tw_e_istore_n {k : Fin 4} {x : Int32} {L' : List Value} (hd : decode (tw_c mi) pc = .ok (.istore_n k, 1)) (hl : tw_st L (k : Nat) (.int x) = some L') : tw_b mi pc L (.int x :: S) h = tw_b mi (pc + 1) L' S h := by
  rw [tw_b_st hd]; simp [tw_do, tw_g, tw_nx, tw_pI, hl]
theorem tw_e_istore {k : Nat} {x : Int32} {L' : List Value} (hd : decode (tw_c mi) pc = .ok (.istore k, 2)) (hl : tw_st L k (.int x) = some L') : tw_b mi pc L (.int x :: S) h = tw_b mi (pc + 2) L' S h := by
  rw [tw_b_st hd]; simp [tw_do, tw_g, tw_nx, tw_pI, hl]
theorem tw_e_lstore_n {k : Fin 4} {x : Int64} {L' : List Value} (hd : decode (tw_c mi) pc = .ok (.lstore_n k, 1)) (hl : tw_st2 L (k : Nat) (.long x) = some L') : tw_b mi pc L (.long x :: S) h = tw_b mi (pc + 1) L' S h := by
  rw [tw_b_st hd]; simp [tw_do, tw_g, tw_nx, tw_pL, hl]
theorem tw_e_lstore {k : Nat} {x : Int64} {L' : List Value} (hd : decode (tw_c mi) pc = .ok (.lstore k, 2)) (hl : tw_st2 L k (.long x) = some L') : tw_b mi pc L (.long x :: S) h = tw_b mi (pc + 2) L' S h := by
  rw [tw_b_st hd]; simp [tw_do, tw_g, tw_nx, tw_pL, hl]
theorem tw_e_astore_n {k : Fin 4} {v : Value} {L' : List Value} (hd : decode (tw_c mi) pc = .ok (.astore_n k, 1)) (hv : tw_asA v = some v) (hl : tw_st L (k : Nat) v = some L') : tw_b mi pc L (v :: S) h = tw_b mi (pc + 1) L' S h := by
  rw [tw_b_st hd]; simp [tw_do, tw_g, tw_nx, tw_pV, hv, hl]
theorem tw_e_astore {k : Nat} {v : Value} {L' : List Value} (hd : decode (tw_c mi) pc = .ok (.astore k, 2)) (hv : tw_asA v = some v) (hl : tw_st L k v = some L') : tw_b mi pc L (v :: S) h = tw_b mi (pc + 2) L' S h := by
  rw [tw_b_st hd]; simp [tw_do, tw_g, tw_nx, tw_pV, hv, hl]
theorem tw_e_iinc {k : Nat} {n : Int} {w x : Int32} {L' : List Value} (hd : decode (tw_c mi) pc = .ok (.iinc k n, 3)) (hw : Int32.ofInt n = w) (hx : L[k]? = some (.int x)) (hl : tw_st L k (.int (x + w)) = some L') : tw_b mi pc L S h = tw_b mi (pc + 3) L' S h := by
  subst hw
  rw [tw_b_st hd]; simp [tw_do, tw_g, tw_nx, hx, tw_asI, hl]
theorem tw_e_iadd {x y : Int32} (hd : decode (tw_c mi) pc = .ok (.iadd, 1)) : tw_b mi pc L (.int y :: .int x :: S) h = tw_b mi (pc + 1) L (.int (x + y) :: S) h := by
  rw [tw_b_st hd]; rfl
theorem tw_e_isub {x y : Int32} (hd : decode (tw_c mi) pc = .ok (.isub, 1)) : tw_b mi pc L (.int y :: .int x :: S) h = tw_b mi (pc + 1) L (.int (x - y) :: S) h := by
  rw [tw_b_st hd]; rfl
theorem tw_e_imul {x y : Int32} (hd : decode (tw_c mi) pc = .ok (.imul, 1)) : tw_b mi pc L (.int y :: .int x :: S) h = tw_b mi (pc + 1) L (.int (x * y) :: S) h := by
  rw [tw_b_st hd]; rfl
theorem tw_e_iand {x y : Int32} (hd : decode (tw_c mi) pc = .ok (.iand, 1)) : tw_b mi pc L (.int y :: .int x :: S) h = tw_b mi (pc + 1) L (.int (x &&& y) :: S) h := by
  rw [tw_b_st hd]; rfl
theorem tw_e_ior {x y : Int32} (hd : decode (tw_c mi) pc = .ok (.ior, 1)) : tw_b mi pc L (.int y :: .int x :: S) h = tw_b mi (pc + 1) L (.int (x ||| y) :: S) h := by
  rw [tw_b_st hd]; rfl
theorem tw_e_ixor {x y : Int32} (hd : decode (tw_c mi) pc = .ok (.ixor, 1)) : tw_b mi pc L (.int y :: .int x :: S) h = tw_b mi (pc + 1) L (.int (x ^^^ y) :: S) h := by
  rw [tw_b_st hd]; rfl
theorem tw_e_ishl {x y : Int32} (hd : decode (tw_c mi) pc = .ok (.ishl, 1)) : tw_b mi pc L (.int y :: .int x :: S) h = tw_b mi (pc + 1) L (.int (x <<< (y &&& 31)) :: S) h := by
  rw [tw_b_st hd]; rfl
theorem tw_e_ishr {x y : Int32} (hd : decode (tw_c mi) pc = .ok (.ishr, 1)) : tw_b mi pc L (.int y :: .int x :: S) h = tw_b mi (pc + 1) L (.int (x >>> (y &&& 31)) :: S) h := by
  rw [tw_b_st hd]; rfl
theorem tw_e_iushr {x y : Int32} (hd : decode (tw_c mi) pc = .ok (.iushr, 1)) : tw_b mi pc L (.int y :: .int x :: S) h = tw_b mi (pc + 1) L (.int (x.toUInt32 >>> (y.toUInt32 &&& Int32.toUInt32 31)).toInt32 :: S) h := by
  rw [tw_b_st hd]; rfl
theorem tw_e_idiv {x y : Int32} (hd : decode (tw_c mi) pc = .ok (.idiv, 1)) : tw_b mi pc L (.int y :: .int x :: S) h = if y = 0 then none else tw_b mi (pc + 1) L (.int (x / y) :: S) h := by
  rw [tw_b_st hd]; by_cases hy : y = 0 <;> simp [tw_do, tw_g, tw_nx, tw_pI, hy]
theorem tw_e_irem {x y : Int32} (hd : decode (tw_c mi) pc = .ok (.irem, 1)) : tw_b mi pc L (.int y :: .int x :: S) h = if y = 0 then none else tw_b mi (pc + 1) L (.int (x - x / y * y) :: S) h := by
  rw [tw_b_st hd]; by_cases hy : y = 0 <;> simp [tw_do, tw_g, tw_nx, tw_pI, hy]
theorem tw_e_ladd {x y : Int64} (hd : decode (tw_c mi) pc = .ok (.ladd, 1)) : tw_b mi pc L (.long y :: .long x :: S) h = tw_b mi (pc + 1) L (.long (x + y) :: S) h := by
  rw [tw_b_st hd]; rfl
theorem tw_e_lsub {x y : Int64} (hd : decode (tw_c mi) pc = .ok (.lsub, 1)) : tw_b mi pc L (.long y :: .long x :: S) h = tw_b mi (pc + 1) L (.long (x - y) :: S) h := by
  rw [tw_b_st hd]; rfl
theorem tw_e_lmul {x y : Int64} (hd : decode (tw_c mi) pc = .ok (.lmul, 1)) : tw_b mi pc L (.long y :: .long x :: S) h = tw_b mi (pc + 1) L (.long (x * y) :: S) h := by
  rw [tw_b_st hd]; rfl
theorem tw_e_ldiv {x y : Int64} (hd : decode (tw_c mi) pc = .ok (.ldiv, 1)) : tw_b mi pc L (.long y :: .long x :: S) h = if y = 0 then none else tw_b mi (pc + 1) L (.long (x / y) :: S) h := by
  rw [tw_b_st hd]; by_cases hy : y = 0 <;> simp [tw_do, tw_g, tw_nx, tw_pL, hy]
theorem tw_e_lrem {x y : Int64} (hd : decode (tw_c mi) pc = .ok (.lrem, 1)) : tw_b mi pc L (.long y :: .long x :: S) h = if y = 0 then none else tw_b mi (pc + 1) L (.long (x - x / y * y) :: S) h := by
  rw [tw_b_st hd]; by_cases hy : y = 0 <;> simp [tw_do, tw_g, tw_nx, tw_pL, hy]
theorem tw_e_lcmp {x y : Int64} (hd : decode (tw_c mi) pc = .ok (.lcmp, 1)) : tw_b mi pc L (.long y :: .long x :: S) h = tw_b mi (pc + 1) L (.int (lg_cmp x y) :: S) h := by
  rw [tw_b_st hd]; rfl
theorem tw_e_i2l {x : Int32} (hd : decode (tw_c mi) pc = .ok (.i2l, 1)) : tw_b mi pc L (.int x :: S) h = tw_b mi (pc + 1) L (.long x.toInt64 :: S) h := by
  rw [tw_b_st hd]; rfl
theorem tw_e_i2b {x : Int32} (hd : decode (tw_c mi) pc = .ok (.i2b, 1)) : tw_b mi pc L (.int x :: S) h = tw_b mi (pc + 1) L (.int x.toInt8.toInt32 :: S) h := by
  rw [tw_b_st hd]; rfl
theorem tw_e_i2s {x : Int32} (hd : decode (tw_c mi) pc = .ok (.i2s, 1)) : tw_b mi pc L (.int x :: S) h = tw_b mi (pc + 1) L (.int x.toInt16.toInt32 :: S) h := by
  rw [tw_b_st hd]; rfl
theorem tw_e_dup {v : Value} (hd : decode (tw_c mi) pc = .ok (.dup, 1)) (hv : v.category = 1) : tw_b mi pc L (v :: S) h = tw_b mi (pc + 1) L (v :: v :: S) h := by
  rw [tw_b_st hd]; simp [tw_do, tw_g, tw_nx, tw_pV, hv]
theorem tw_e_dup_x1 {v w : Value} (hd : decode (tw_c mi) pc = .ok (.dup_x1, 1)) (hv : v.category = 1) (hw : w.category = 1) : tw_b mi pc L (v :: w :: S) h = tw_b mi (pc + 1) L (v :: w :: v :: S) h := by
  rw [tw_b_st hd]; simp [tw_do, tw_g, tw_nx, tw_pV, hv, hw]
theorem tw_e_dup2 {v w : Value} (hd : decode (tw_c mi) pc = .ok (.dup2, 1)) (hv : v.category = 1) (hw : w.category = 1) : tw_b mi pc L (v :: w :: S) h = tw_b mi (pc + 1) L (v :: w :: v :: w :: S) h := by
  rw [tw_b_st hd]; simp [tw_do, tw_g, tw_nx, tw_pV, hv, hw]
theorem tw_to_eq {off : Int} {t : Nat} {k : Nat → Option tw_O} (ht : (pc : Int) + off = (t : Int)) : tw_to pc off k = k t := by
  unfold tw_to tw_g
  rw [ht, if_pos (by simp)]
  rfl
theorem tw_e_goto {off : Int} {t : Nat} (hd : decode (tw_c mi) pc = .ok (.goto off, 3)) (ht : (pc : Int) + off = (t : Int)) : tw_b mi pc L S h = tw_b mi t L S h := by
  rw [tw_b_st hd]; simp [tw_do, tw_g, tw_nx, tw_to_eq ht]
theorem tw_e_if_eq {x : Int32} {off : Int} {t : Nat} (hd : decode (tw_c mi) pc = .ok (.ifCond .eq off, 3)) (ht : (pc : Int) + off = (t : Int)) : tw_b mi pc L (.int x :: S) h = if x = 0 then tw_b mi t L S h else tw_b mi (pc + 3) L S h := by
  rw [tw_b_st hd]; by_cases hq : x = 0 <;> simp [tw_do, tw_g, tw_nx, tw_pI, tw_to_eq ht, tw_cmp, hq]
theorem tw_e_if_ne {x : Int32} {off : Int} {t : Nat} (hd : decode (tw_c mi) pc = .ok (.ifCond .ne off, 3)) (ht : (pc : Int) + off = (t : Int)) : tw_b mi pc L (.int x :: S) h = if x = 0 then tw_b mi (pc + 3) L S h else tw_b mi t L S h := by
  rw [tw_b_st hd]; by_cases hq : x = 0 <;> simp [tw_do, tw_g, tw_nx, tw_pI, tw_to_eq ht, tw_cmp, hq]
theorem tw_e_if_lt {x : Int32} {off : Int} {t : Nat} (hd : decode (tw_c mi) pc = .ok (.ifCond .lt off, 3)) (ht : (pc : Int) + off = (t : Int)) : tw_b mi pc L (.int x :: S) h = if x < 0 then tw_b mi t L S h else tw_b mi (pc + 3) L S h := by
  rw [tw_b_st hd]; by_cases hq : x < 0 <;> simp [tw_do, tw_g, tw_nx, tw_pI, tw_to_eq ht, tw_cmp, hq]
theorem tw_e_if_ge {x : Int32} {off : Int} {t : Nat} (hd : decode (tw_c mi) pc = .ok (.ifCond .ge off, 3)) (ht : (pc : Int) + off = (t : Int)) : tw_b mi pc L (.int x :: S) h = if x < 0 then tw_b mi (pc + 3) L S h else tw_b mi t L S h := by
  rw [tw_b_st hd]; by_cases hq : x < 0
  · simp [tw_do, tw_g, tw_nx, tw_pI, tw_to_eq ht, tw_cmp, hq, Int32.not_le.mpr hq]
  · simp [tw_do, tw_g, tw_nx, tw_pI, tw_to_eq ht, tw_cmp, hq, Int32.not_lt.mp hq]
theorem tw_e_if_gt {x : Int32} {off : Int} {t : Nat} (hd : decode (tw_c mi) pc = .ok (.ifCond .gt off, 3)) (ht : (pc : Int) + off = (t : Int)) : tw_b mi pc L (.int x :: S) h = if 0 < x then tw_b mi t L S h else tw_b mi (pc + 3) L S h := by
  rw [tw_b_st hd]; by_cases hq : 0 < x <;> simp [tw_do, tw_g, tw_nx, tw_pI, tw_to_eq ht, tw_cmp, hq]
theorem tw_e_if_le {x : Int32} {off : Int} {t : Nat} (hd : decode (tw_c mi) pc = .ok (.ifCond .le off, 3)) (ht : (pc : Int) + off = (t : Int)) : tw_b mi pc L (.int x :: S) h = if 0 < x then tw_b mi (pc + 3) L S h else tw_b mi t L S h := by
  rw [tw_b_st hd]; by_cases hq : 0 < x
  · simp [tw_do, tw_g, tw_nx, tw_pI, tw_to_eq ht, tw_cmp, hq, Int32.not_le.mpr hq]
  · simp [tw_do, tw_g, tw_nx, tw_pI, tw_to_eq ht, tw_cmp, hq, Int32.not_lt.mp hq]
theorem tw_e_icmp_eq {x y : Int32} {off : Int} {t : Nat} (hd : decode (tw_c mi) pc = .ok (.if_icmp .eq off, 3)) (ht : (pc : Int) + off = (t : Int)) : tw_b mi pc L (.int y :: .int x :: S) h = if x = y then tw_b mi t L S h else tw_b mi (pc + 3) L S h := by
  rw [tw_b_st hd]; by_cases hq : x = y <;> simp [tw_do, tw_g, tw_nx, tw_pI, tw_to_eq ht, tw_cmp, hq]
theorem tw_e_icmp_ne {x y : Int32} {off : Int} {t : Nat} (hd : decode (tw_c mi) pc = .ok (.if_icmp .ne off, 3)) (ht : (pc : Int) + off = (t : Int)) : tw_b mi pc L (.int y :: .int x :: S) h = if x = y then tw_b mi (pc + 3) L S h else tw_b mi t L S h := by
  rw [tw_b_st hd]; by_cases hq : x = y <;> simp [tw_do, tw_g, tw_nx, tw_pI, tw_to_eq ht, tw_cmp, hq]
theorem tw_e_icmp_lt {x y : Int32} {off : Int} {t : Nat} (hd : decode (tw_c mi) pc = .ok (.if_icmp .lt off, 3)) (ht : (pc : Int) + off = (t : Int)) : tw_b mi pc L (.int y :: .int x :: S) h = if x < y then tw_b mi t L S h else tw_b mi (pc + 3) L S h := by
  rw [tw_b_st hd]; by_cases hq : x < y <;> simp [tw_do, tw_g, tw_nx, tw_pI, tw_to_eq ht, tw_cmp, hq]
theorem tw_e_icmp_ge {x y : Int32} {off : Int} {t : Nat} (hd : decode (tw_c mi) pc = .ok (.if_icmp .ge off, 3)) (ht : (pc : Int) + off = (t : Int)) : tw_b mi pc L (.int y :: .int x :: S) h = if x < y then tw_b mi (pc + 3) L S h else tw_b mi t L S h := by
  rw [tw_b_st hd]; by_cases hq : x < y
  · simp [tw_do, tw_g, tw_nx, tw_pI, tw_to_eq ht, tw_cmp, hq, Int32.not_le.mpr hq]
  · simp [tw_do, tw_g, tw_nx, tw_pI, tw_to_eq ht, tw_cmp, hq, Int32.not_lt.mp hq]
theorem tw_e_icmp_gt {x y : Int32} {off : Int} {t : Nat} (hd : decode (tw_c mi) pc = .ok (.if_icmp .gt off, 3)) (ht : (pc : Int) + off = (t : Int)) : tw_b mi pc L (.int y :: .int x :: S) h = if y < x then tw_b mi t L S h else tw_b mi (pc + 3) L S h := by
  rw [tw_b_st hd]; by_cases hq : y < x <;> simp [tw_do, tw_g, tw_nx, tw_pI, tw_to_eq ht, tw_cmp, hq]
theorem tw_e_icmp_le {x y : Int32} {off : Int} {t : Nat} (hd : decode (tw_c mi) pc = .ok (.if_icmp .le off, 3)) (ht : (pc : Int) + off = (t : Int)) : tw_b mi pc L (.int y :: .int x :: S) h = if y < x then tw_b mi (pc + 3) L S h else tw_b mi t L S h := by
  rw [tw_b_st hd]; by_cases hq : y < x
  · simp [tw_do, tw_g, tw_nx, tw_pI, tw_to_eq ht, tw_cmp, hq, Int32.not_le.mpr hq]
  · simp [tw_do, tw_g, tw_nx, tw_pI, tw_to_eq ht, tw_cmp, hq, Int32.not_lt.mp hq]
theorem tw_e_ifnull {a : Nat} {off : Int} (hd : decode (tw_c mi) pc = .ok (.ifnull off, 3)) : tw_b mi pc L (.ref a :: S) h = tw_b mi (pc + 3) L S h := by
  rw [tw_b_st hd]; simp [tw_do, tw_g, tw_nx, tw_pV, tw_asA]
theorem tw_e_ifnullN {off : Int} {t : Nat} (hd : decode (tw_c mi) pc = .ok (.ifnull off, 3)) (ht : (pc : Int) + off = (t : Int)) : tw_b mi pc L (.null :: S) h = tw_b mi t L S h := by
  rw [tw_b_st hd]; simp [tw_do, tw_g, tw_nx, tw_pV, tw_asA, tw_to_eq ht]
theorem tw_e_ifnonnull {a : Nat} {off : Int} {t : Nat} (hd : decode (tw_c mi) pc = .ok (.ifnonnull off, 3)) (ht : (pc : Int) + off = (t : Int)) : tw_b mi pc L (.ref a :: S) h = tw_b mi t L S h := by
  rw [tw_b_st hd]; simp [tw_do, tw_g, tw_nx, tw_pV, tw_asA, tw_to_eq ht]
theorem tw_e_ifnonnullN {off : Int} (hd : decode (tw_c mi) pc = .ok (.ifnonnull off, 3)) : tw_b mi pc L (.null :: S) h = tw_b mi (pc + 3) L S h := by
  rw [tw_b_st hd]; simp [tw_do, tw_g, tw_nx, tw_pV, tw_asA]
/-- a switch whose value is known to lead to an offset -/
theorem tw_e_tsw {d lo hi off : Int} {offs : Array Int} {len t : Nat} {x : Int32} (hd : decode (tw_c mi) pc = .ok (.tableswitch d lo hi offs, len)) (ho : (if x.toInt < lo ∨ hi < x.toInt then some d else offs[(x.toInt - lo).toNat]?) = some off) (ht : (pc : Int) + off = (t : Int)) : tw_b mi pc L (.int x :: S) h = tw_b mi t L S h := by
  rw [tw_b_st hd]
  by_cases hq : x.toInt < lo ∨ hi < x.toInt
  · rw [if_pos hq] at ho
    cases ho
    simp [tw_do, tw_pI, hq, tw_to_eq ht, tw_nx]
  · rw [if_neg hq] at ho
    simp [tw_do, tw_pI, hq, ho, tw_to_eq ht, tw_nx]
theorem tw_e_lsw {d off : Int} {ps : Array (Int × Int)} {len t : Nat} {x : Int32} (hd : decode (tw_c mi) pc = .ok (.lookupswitch d ps, len)) (hp : (ps.toList.zip (ps.toList.drop 1)).all (fun (a, next) => a.1 < next.1) = true) (ho : Op.lookupswitch.offset ps.toList d x.toInt = off) (ht : (pc : Int) + off = (t : Int)) : tw_b mi pc L (.int x :: S) h = tw_b mi t L S h := by
  rw [tw_b_st hd]
  simp only [tw_do, tw_g, hp, if_true, tw_pI, Option.bind_some, ho, tw_to_eq ht, tw_nx]
theorem tw_e_ireturn {x : Int32} (hd : decode (tw_c mi) pc = .ok (.ireturn, 1)) : tw_b mi pc L [.int x] h = if tw_nb mi x = true then some (some (.int x), h) else none := by
  rw [tw_b_st hd]; by_cases hq : tw_nb mi x = true <;> simp [tw_do, tw_g, hq]
theorem tw_e_lreturn {x : Int64} (hd : decode (tw_c mi) pc = .ok (.lreturn, 1)) (hq : tw_isL mi = true) : tw_b mi pc L [.long x] h = some (some (.long x), h) := by
  rw [tw_b_st hd]; simp [tw_do, tw_g, hq]
theorem tw_e_areturn {v : Value} (hd : decode (tw_c mi) pc = .ok (.areturn, 1)) (hq : tw_isA mi = true) (hv : tw_asA v = some v) : tw_b mi pc L [v] h = some (some v, h) := by
  rw [tw_b_st hd]; simp [tw_do, tw_g, hq, hv]
theorem tw_e_return (hd : decode (tw_c mi) pc = .ok (.return_, 1)) (hq : tw_isV mi = true) : tw_b mi pc L [] h = some (none, h) := by
  rw [tw_b_st hd]; simp [tw_do, tw_g, hq]
theorem tw_e_new {i c n : Nat} {fs : List Value} (hd : decode (tw_c mi) pc = .ok (.new i, 3)) (hq : (tw_nw (tw_ow mi) i).map (fun q => q.2.1) = some c) (hf : tw_df c = fs) (hn : tw_N c = n) : tw_b mi pc L S h = tw_b mi (pc + 3) L (.ref h.1 :: S) (tw_new h (.inr (.inr (c, fs))) n) := by
  subst hf; subst hn
  replace hq := Option.map_eq_some_iff.mp hq
  obtain ⟨q, hq, rfl⟩ := hq
  rw [tw_b_st hd]; simp [tw_do, tw_g, tw_nx, hq]
theorem tw_e_newarray {n : Int32} (hd : decode (tw_c mi) pc = .ok (.newarray .int, 2)) : tw_b mi pc L (.int n :: S) h = if tw_ok n = true then tw_b mi (pc + 2) L (.ref h.1 :: S) (tw_new h (.inl (n.toNatClampNeg, fun _ => 0)) n.toNatClampNeg) else none := by
  rw [tw_b_st hd]; unfold tw_ok; by_cases hq : (decide (0 ≤ n) && decide (n.toNatClampNeg ≤ 1000)) = true <;> simp only [tw_do, tw_g, tw_nx, tw_pI, Option.bind_some, hq, beq_self_eq_true, if_true] <;> rfl
theorem tw_e_anewarray {i t : Nat} {n : Int32} (hd : decode (tw_c mi) pc = .ok (.anewarray i, 3)) (hq : (tw_aw (tw_ow mi) i).map (fun q => q.2.1) = some t) : tw_b mi pc L (.int n :: S) h = if tw_ok n = true then tw_b mi (pc + 3) L (.ref h.1 :: S) (tw_new h (.inr (.inl (t, n.toNatClampNeg, fun _ => none))) n.toNatClampNeg) else none := by
  replace hq := Option.map_eq_some_iff.mp hq
  obtain ⟨q, hq, rfl⟩ := hq
  rw [tw_b_st hd]; unfold tw_ok; by_cases hz : (decide (0 ≤ n) && decide (n.toNatClampNeg ≤ 1000)) = true <;> simp only [tw_do, tw_g, tw_nx, tw_pI, Option.bind_some, hq, hz, beq_self_eq_true, if_true] <;> rfl
theorem tw_e_getfield {i k a : Nat} {cs : List Nat} (hd : decode (tw_c mi) pc = .ok (.getfield i, 3)) (hq : (tw_fe (tw_ow mi) i).map (fun q => q.2.2) = some (k, cs)) : tw_b mi pc L (.ref a :: S) h = (tw_gf h a cs k).bind fun v => tw_b mi (pc + 3) L (v :: S) h := by
  replace hq := Option.map_eq_some_iff.mp hq
  obtain ⟨q, hq, he⟩ := hq
  rw [tw_b_st hd]
  simp only [tw_do, tw_g, tw_nx, tw_pR, Option.bind_some, hq, beq_self_eq_true, if_true, he, tw_gf]
  by_cases ha : a = 0
  · subst ha
    cases hc : h.2.2 0 with
    | none => simp
    | some x => rcases x with x | x | ⟨c, fs⟩ <;> simp
  · cases hc : h.2.2 a with
    | none => simp [ha]
    | some x =>
      rcases x with x | x | ⟨c, fs⟩
      · simp [ha]
      · simp [ha]
      · by_cases hm : c ∈ cs
        · cases hk : fs[k]? with
          | none => simp [ha, hm, hk]
          | some v => simp [ha, hm, hk]
        · simp [ha, hm]
theorem tw_e_putfield {i k a : Nat} {cs : List Nat} {t : FieldType} {v : Value} (hd : decode (tw_c mi) pc = .ok (.putfield i, 3)) (hq : (tw_fe (tw_ow mi) i).map (fun q => q.2.2) = some (k, cs)) (hz : (cs.all fun c => decide (tw_t c k = t) && tw_pok mi c k) = true) : tw_b mi pc L (v :: .ref a :: S) h = (tw_sf h a cs k t v).bind fun h' => tw_b mi (pc + 3) L S h' := by
  replace hq := Option.map_eq_some_iff.mp hq
  obtain ⟨q, hq, he⟩ := hq
  rw [tw_b_st hd]
  simp only [tw_do, tw_g, tw_nx, tw_pR, tw_pV, Option.bind_some, hq, beq_self_eq_true, if_true, he, tw_sf]
  by_cases ha : a = 0
  · subst ha
    cases hc : h.2.2 0 with
    | none => simp
    | some x => rcases x with x | x | ⟨c, fs⟩ <;> simp
  · cases hc : h.2.2 a with
    | none => simp [ha]
    | some x =>
      rcases x with x | x | ⟨c, fs⟩
      · simp [ha]
      · simp [ha]
      · by_cases hm : c ∈ cs
        · have h2 := List.all_eq_true.mp hz c hm
          simp only [Bool.and_eq_true, decide_eq_true_eq] at h2
          by_cases hf : tw_fit t v = true
          · by_cases hl : k < fs.length
            · simp [ha, hm, h2, hf, hl]
            · simp [ha, hm, h2, hf, hl]
          · simp [ha, hm, h2, hf]
        · simp [ha, hm]
theorem tw_e_iaload {a : Nat} {j : Int32} (hd : decode (tw_c mi) pc = .ok (.iaload, 1)) : tw_b mi pc L (.int j :: .ref a :: S) h = (tw_ia h a j).bind fun v => tw_b mi (pc + 1) L (v :: S) h := by
  rw [tw_b_st hd]
  simp only [tw_do, tw_g, tw_nx, tw_pR, tw_pI, Option.bind_some, beq_self_eq_true, if_true, tw_ia]
  cases hc : h.2.2 a with
  | none => simp
  | some x =>
    rcases x with ⟨n, f⟩ | x | ⟨c, fs⟩
    · by_cases hv : tw_vi j n = true <;> simp [hv]
    · simp
    · simp
theorem tw_e_iastore {a : Nat} {j x : Int32} (hd : decode (tw_c mi) pc = .ok (.iastore, 1)) : tw_b mi pc L (.int x :: .int j :: .ref a :: S) h = (tw_ix h a j x).bind fun h' => tw_b mi (pc + 1) L S h' := by
  rw [tw_b_st hd]
  simp only [tw_do, tw_g, tw_nx, tw_pR, tw_pI, Option.bind_some, beq_self_eq_true, if_true, tw_ix]
  by_cases ha : a = 0
  · subst ha
    cases hc : h.2.2 0 with
    | none => simp
    | some x => rcases x with ⟨n, f⟩ | x | ⟨c, fs⟩ <;> simp
  · cases hc : h.2.2 a with
    | none => simp [ha]
    | some x =>
      rcases x with ⟨n, f⟩ | x | ⟨c, fs⟩
      · by_cases hv : tw_vi j n = true <;> simp [ha, hv]
      · simp [ha]
      · simp [ha]
theorem tw_e_aaload {a : Nat} {j : Int32} (hd : decode (tw_c mi) pc = .ok (.aaload, 1)) : tw_b mi pc L (.int j :: .ref a :: S) h = (tw_aa h a j).bind fun v => tw_b mi (pc + 1) L (v :: S) h := by
  rw [tw_b_st hd]
  simp only [tw_do, tw_g, tw_nx, tw_pR, tw_pI, Option.bind_some, beq_self_eq_true, if_true, tw_aa]
  by_cases ha : a = 0
  · subst ha
    cases hc : h.2.2 0 with
    | none => simp
    | some x => rcases x with ⟨n, f⟩ | x | ⟨c, fs⟩ <;> simp
  · cases hc : h.2.2 a with
    | none => simp [ha]
    | some x =>
      rcases x with ⟨n, f⟩ | ⟨t, n, f⟩ | ⟨c, fs⟩
      · simp [ha]
      · by_cases hv : tw_vi j n = true
        · by_cases ht : t = 1 ∨ t = 2 <;> simp [ha, hv, ht]
        · simp [ha, hv]
      · simp [ha]
theorem tw_e_aastore {a : Nat} {j : Int32} {v : Value} (hd : decode (tw_c mi) pc = .ok (.aastore, 1)) : tw_b mi pc L (v :: .int j :: .ref a :: S) h = (tw_ax h a j v).bind fun h' => tw_b mi (pc + 1) L S h' := by
  rw [tw_b_st hd]
  simp only [tw_do, tw_g, tw_nx, tw_pR, tw_pI, tw_pV, Option.bind_some, beq_self_eq_true, if_true, tw_ax]
  by_cases ha : a = 0
  · subst ha
    cases hc : h.2.2 0 with
    | none => simp
    | some x => rcases x with ⟨n, f⟩ | x | ⟨c, fs⟩ <;> simp
  · by_cases hv0 : v = .ref 0
    · cases hc : h.2.2 a with
      | none => simp [ha, hv0]
      | some x => rcases x with ⟨n, f⟩ | x | ⟨c, fs⟩ <;> simp [ha, hv0]
    · cases hc : h.2.2 a with
      | none => simp [ha, hv0]
      | some x =>
        rcases x with ⟨n, f⟩ | ⟨t, n, f⟩ | ⟨c, fs⟩
        · simp [ha, hv0]
        · by_cases hv : tw_vi j n = true
          · by_cases ht : t = 1 ∨ t = 2
            · cases he : tw_el h t v <;> simp [ha, hv0, hv, ht, he]
            · simp [ha, hv0, hv, ht]
          · simp [ha, hv0, hv]
        · simp [ha, hv0]
theorem tw_e_alen {a : Nat} (hd : decode (tw_c mi) pc = .ok (.arraylength, 1)) : tw_b mi pc L (.ref a :: S) h = (tw_al h a).bind fun v => tw_b mi (pc + 1) L (v :: S) h := by
  rw [tw_b_st hd]
  simp only [tw_do, tw_g, tw_nx, tw_pR, Option.bind_some, beq_self_eq_true, if_true, tw_al]
  cases hc : h.2.2 a with
  | none => simp
  | some x =>
    rcases x with ⟨n, f⟩ | ⟨t, n, f⟩ | ⟨c, fs⟩
    · simp
    · by_cases ha : a = 0
      · simp [ha]
      · by_cases ht : t = 1 ∨ t = 2 <;> simp [ha, ht]
    · simp
/-! calls -/
theorem tw_inv_b {t : Nat} {vs rest L0 : List Value} (h1 : tw_ct rest ≤ 8) (h2 : tw_rk t < tw_rk mi) (h3 : (tw_ea vs).length ≤ tw_ml t) (h4 : tw_en t vs = L0) : (match tw_inv mi pc L rest h t vs with
    | none => none
    | some (.inl r) => some r
    | some (.inr (.inl σ')) => tw_b σ'.1 σ'.2.1 σ'.2.2.1 σ'.2.2.2.1 σ'.2.2.2.2
    | some (.inr (.inr (σ1, k))) => (tw_b σ1.1 σ1.2.1 σ1.2.2.1 σ1.2.2.2.1 σ1.2.2.2.2).bind fun r => tw_b k.1 k.2.1 k.2.2.1 (r.1.toList ++ k.2.2.2) r.2) = (tw_b t 0 L0 [] h).bind fun r => tw_b mi (pc + 3) L (r.1.toList ++ rest) r.2 := by
  subst h4
  simp [tw_inv, tw_g, h1, h2, h3]
theorem tw_e_static {i n t : Nat} {As rest L0 : List Value} (hd : decode (tw_c mi) pc = .ok (.invokestatic i, 3)) (hq : (tw_ce (tw_ow mi) i).map (fun q => (q.2.1 == 0 || q.2.1 == 1, q.2.2.1, tw_hd q)) = some (true, n, t)) (hn : As.length = n) (h1 : tw_ct rest ≤ 8) (h2 : tw_rk t < tw_rk mi) (h3 : (tw_ea As).length ≤ tw_ml t) (h4 : tw_en t As = L0) : tw_b mi pc L (As.reverse ++ rest) h = (tw_b t 0 L0 [] h).bind fun r => tw_b mi (pc + 3) L (r.1.toList ++ rest) r.2 := by
  replace hq := Option.map_eq_some_iff.mp hq
  obtain ⟨q, hq, he⟩ := hq
  rw [tw_b_st hd]
  obtain ⟨⟨o, i'⟩, kd, n', ts, q5⟩ := q
  simp only [Prod.mk.injEq, Bool.or_eq_true, beq_iff_eq] at he
  obtain ⟨hk, rfl, rfl⟩ := he
  have e1 : (As.reverse ++ rest).drop n' = rest := by rw [List.drop_append_of_le_length (by simp [hn])]; simp [hn]
  have e2 : ((As.reverse ++ rest).take n').reverse = As := by rw [List.take_append_of_le_length (by simp [hn]), List.take_of_length_le (by simp [hn]), List.reverse_reverse]
  have e3 : n' ≤ (As.reverse ++ rest).length := by simp; omega
  rw [← tw_inv_b (pc := pc) (L := L) (h := h) h1 h2 h3 h4]
  rcases hk with rfl | rfl
  · simp only [tw_do, tw_g, beq_self_eq_true, if_true, hq, Option.bind_some, e1, e2, e3, decide_true]
    rfl
  · simp only [tw_do, tw_g, beq_self_eq_true, if_true, hq, Option.bind_some, e1, e2, e3, decide_true]
    rfl
theorem tw_e_max {i : Nat} {x y : Int32} (hd : decode (tw_c mi) pc = .ok (.invokestatic i, 3)) (hq : (tw_ce (tw_ow mi) i).map (fun q => q.2.1) = some 11) (h1 : tw_ct S ≤ 8) (h2 : 0 < tw_rk mi) : tw_b mi pc L (.int y :: .int x :: S) h = tw_b mi (pc + 3) L (.int (if x < y then y else x) :: S) h := by
  replace hq := Option.map_eq_some_iff.mp hq
  obtain ⟨q, hq, he⟩ := hq
  rw [tw_b_st hd]
  simp [tw_do, tw_g, tw_nx, tw_pI, hq, he, h1, h2]
theorem tw_e_min {i : Nat} {x y : Int32} (hd : decode (tw_c mi) pc = .ok (.invokestatic i, 3)) (hq : (tw_ce (tw_ow mi) i).map (fun q => q.2.1) = some 12) (h1 : tw_ct S ≤ 8) (h2 : 0 < tw_rk mi) : tw_b mi pc L (.int y :: .int x :: S) h = tw_b mi (pc + 3) L (.int (if y < x then y else x) :: S) h := by
  replace hq := Option.map_eq_some_iff.mp hq
  obtain ⟨q, hq, he⟩ := hq
  rw [tw_b_st hd]
  simp [tw_do, tw_g, tw_nx, tw_pI, hq, he, h1, h2]
theorem tw_e_copy {i a b : Nat} {n dp sp : Int32} (hd : decode (tw_c mi) pc = .ok (.invokestatic i, 3)) (hq : (tw_ce (tw_ow mi) i).map (fun q => q.2.1) = some 13) (h1 : tw_ct S ≤ 8) (h2 : 0 < tw_rk mi) : tw_b mi pc L (.int n :: .int dp :: .ref b :: .int sp :: .ref a :: S) h = (tw_ac h a sp b dp n).bind fun h' => tw_b mi (pc + 3) L S h' := by
  replace hq := Option.map_eq_some_iff.mp hq
  obtain ⟨q, hq, he⟩ := hq
  rw [tw_b_st hd]
  simp only [tw_do, tw_g, tw_nx, tw_pI, tw_pR, hq, he, h1, h2, beq_self_eq_true, if_true, Option.bind_some, tw_ac]
  by_cases ha : a = 0
  · cases hc : h.2.2 a with
    | none => simp [ha]
    | some x =>
      cases hc2 : h.2.2 b with
      | none => rcases x with ⟨n0, f⟩ | x | x <;> simp [ha]
      | some y => rcases x with ⟨n0, f⟩ | x | x <;> rcases y with ⟨n1, g⟩ | y | y <;> simp [ha]
  · by_cases hb : b = 0
    · cases hc : h.2.2 a with
      | none => simp [hb]
      | some x =>
        cases hc2 : h.2.2 b with
        | none => rcases x with ⟨n0, f⟩ | x | x <;> simp [hb]
        | some y => rcases x with ⟨n0, f⟩ | x | x <;> rcases y with ⟨n1, g⟩ | y | y <;> simp [hb]
    · cases hc : h.2.2 a with
      | none => simp [ha, hb]
      | some x =>
        cases hc2 : h.2.2 b with
        | none => rcases x with ⟨n0, f⟩ | x | x <;> simp [ha, hb]
        | some y =>
          rcases x with ⟨n0, f⟩ | x | x
          · rcases y with ⟨n1, g⟩ | y | y
            · by_cases hz : 0 ≤ n ∧ 0 ≤ dp ∧ 0 ≤ sp ∧ sp.toNatClampNeg + n.toNatClampNeg ≤ n0 ∧ dp.toNatClampNeg + n.toNatClampNeg ≤ n1
              · simp [ha, hb, hz]
              · have hz' : ¬ ((decide (0 ≤ n) && (decide (0 ≤ dp) && (decide (0 ≤ sp) && (decide (sp.toNatClampNeg + n.toNatClampNeg ≤ n0) && decide (dp.toNatClampNeg + n.toNatClampNeg ≤ n1))))) = true) := by
                  simpa only [Bool.and_eq_true, decide_eq_true_eq] using hz
                simp only [ha, hb, ne_eq, not_false_eq_true, decide_true, Bool.and_self, if_true, true_and, if_neg hz, if_neg hz', Option.bind_none]
            · simp [ha, hb]
            · simp [ha, hb]
          · rcases y with ⟨n1, g⟩ | y | y <;> simp [ha, hb]
          · rcases y with ⟨n1, g⟩ | y | y <;> simp [ha, hb]
theorem tw_e_obj {i a : Nat} (hd : decode (tw_c mi) pc = .ok (.invokespecial i, 3)) (hq : (tw_ce (tw_ow mi) i).map (fun q => (q.2.1, q.2.2.1)) = some (10, 0)) (ha : a ≠ 0) (h1 : tw_ct S ≤ 8) (h2 : 0 < tw_rk mi) : tw_b mi pc L (.ref a :: S) h = tw_b mi (pc + 3) L S h := by
  replace hq := Option.map_eq_some_iff.mp hq
  obtain ⟨q, hq, he⟩ := hq
  simp only [Prod.mk.injEq] at he
  rw [tw_b_st hd]
  simp [tw_do, tw_g, tw_nx, tw_pR, hq, he.1, he.2, h1, h2, ha]
theorem tw_e_special {i n t a : Nat} {As rest L0 : List Value} (hd : decode (tw_c mi) pc = .ok (.invokespecial i, 3)) (hq : (tw_ce (tw_ow mi) i).map (fun q => (q.2.1 == 2 || q.2.1 == 3, q.2.2.1, tw_hd q)) = some (true, n, t)) (ha : a ≠ 0) (hn : As.length = n) (h1 : tw_ct rest ≤ 8) (h2 : tw_rk t < tw_rk mi) (h3 : (tw_ea (.ref a :: As)).length ≤ tw_ml t) (h4 : tw_en t (.ref a :: As) = L0) : tw_b mi pc L (As.reverse ++ .ref a :: rest) h = (tw_b t 0 L0 [] h).bind fun r => tw_b mi (pc + 3) L (r.1.toList ++ rest) r.2 := by
  replace hq := Option.map_eq_some_iff.mp hq
  obtain ⟨q, hq, he⟩ := hq
  rw [tw_b_st hd]
  obtain ⟨⟨o, i'⟩, kd, n', ts, q5⟩ := q
  simp only [Prod.mk.injEq, Bool.or_eq_true, beq_iff_eq] at he
  obtain ⟨hk, rfl, rfl⟩ := he
  have e1 : (As.reverse ++ .ref a :: rest).drop n' = .ref a :: rest := by rw [List.drop_append_of_le_length (by simp [hn])]; simp [hn]
  have e2 : ((As.reverse ++ .ref a :: rest).take n').reverse = As := by rw [List.take_append_of_le_length (by simp [hn]), List.take_of_length_le (by simp [hn]), List.reverse_reverse]
  rw [← tw_inv_b (pc := pc) (L := L) (h := h) h1 h2 h3 h4]
  rcases hk with rfl | rfl
  · simp only [tw_do, tw_g, beq_self_eq_true, if_true, hq, Option.bind_some, e1, e2, tw_pR, ne_eq, ha, not_false_eq_true, decide_true]
    rfl
  · simp only [tw_do, tw_g, beq_self_eq_true, if_true, hq, Option.bind_some, e1, e2, tw_pR, ne_eq, ha, not_false_eq_true, decide_true]
    rfl
theorem tw_e_super {i n t a : Nat} {As rest L0 : List Value} (hd : decode (tw_c mi) pc = .ok (.invokespecial i, 3)) (hq : (tw_ce (tw_ow mi) i).map (fun q => (q.2.1, q.2.2.1, tw_hd q)) = some (4, n, t)) {c : Nat} (hc : tw_co h a = some c) (hc2 : c < 12) (hn : As.length = n) (h1 : tw_ct rest ≤ 8) (h2 : tw_rk t < tw_rk mi) (h3 : (tw_ea (.ref a :: As)).length ≤ tw_ml t) (h4 : tw_en t (.ref a :: As) = L0) : tw_b mi pc L (As.reverse ++ .ref a :: rest) h = (tw_b t 0 L0 [] h).bind fun r => tw_b mi (pc + 3) L (r.1.toList ++ rest) r.2 := by
  replace hq := Option.map_eq_some_iff.mp hq
  obtain ⟨q, hq, he⟩ := hq
  rw [tw_b_st hd]
  obtain ⟨⟨o, i'⟩, kd, n', ts, q5⟩ := q
  simp only [Prod.mk.injEq] at he
  obtain ⟨rfl, rfl, rfl⟩ := he
  obtain ⟨fs, hf, ha⟩ : ∃ fs, h.2.2 a = some (.inr (.inr (c, fs))) ∧ a ≠ 0 := by
    unfold tw_co at hc
    split at hc
    · rename_i c' fs hh
      split at hc
      · cases hc; exact ⟨fs, hh, by assumption⟩
      · cases hc
    · cases hc
  have e1 : (As.reverse ++ .ref a :: rest).drop n' = .ref a :: rest := by rw [List.drop_append_of_le_length (by simp [hn])]; simp [hn]
  have e2 : ((As.reverse ++ .ref a :: rest).take n').reverse = As := by rw [List.take_append_of_le_length (by simp [hn]), List.take_of_length_le (by simp [hn]), List.reverse_reverse]
  rw [← tw_inv_b (pc := pc) (L := L) (h := h) h1 h2 h3 h4]
  simp only [tw_do, tw_g, beq_self_eq_true, if_true, hq, Option.bind_some, e1, e2, tw_pR, ne_eq, ha, not_false_eq_true, decide_true, hf, hc2]
  rfl
theorem tw_e_virtual {i n t a : Nat} {As rest L0 : List Value} {c : Nat} (hd : decode (tw_c mi) pc = .ok (.invokevirtual i, 3)) (hq : (tw_ce (tw_ow mi) i).map (fun q => (q.2.1 == 5 || q.2.1 == 6, q.2.2.1, q.2.2.2.1.lookup c)) = some (true, n, some t)) (hc : tw_co h a = some c) (hn : As.length = n) (h1 : tw_ct rest ≤ 8) (h2 : tw_rk t < tw_rk mi) (h3 : (tw_ea (.ref a :: As)).length ≤ tw_ml t) (h4 : tw_en t (.ref a :: As) = L0) : tw_b mi pc L (As.reverse ++ .ref a :: rest) h = (tw_b t 0 L0 [] h).bind fun r => tw_b mi (pc + 3) L (r.1.toList ++ rest) r.2 := by
  replace hq := Option.map_eq_some_iff.mp hq
  obtain ⟨q, hq, he⟩ := hq
  rw [tw_b_st hd]
  obtain ⟨⟨o, i'⟩, kd, n', ts, q5⟩ := q
  simp only [Prod.mk.injEq, Bool.or_eq_true, beq_iff_eq] at he
  obtain ⟨hk, rfl, hlu⟩ := he
  obtain ⟨fs, hf, ha⟩ : ∃ fs, h.2.2 a = some (.inr (.inr (c, fs))) ∧ a ≠ 0 := by
    unfold tw_co at hc
    split at hc
    · rename_i c' fs hh
      split at hc
      · cases hc; exact ⟨fs, hh, by assumption⟩
      · cases hc
    · cases hc
  have e1 : (As.reverse ++ .ref a :: rest).drop n' = .ref a :: rest := by rw [List.drop_append_of_le_length (by simp [hn])]; simp [hn]
  have e2 : ((As.reverse ++ .ref a :: rest).take n').reverse = As := by rw [List.take_append_of_le_length (by simp [hn]), List.take_of_length_le (by simp [hn]), List.reverse_reverse]
  rw [← tw_inv_b (pc := pc) (L := L) (h := h) h1 h2 h3 h4]
  have hk' : (decide (kd = 5) || decide (kd = 6)) = true := by simpa using hk
  simp only [tw_do, tw_g, beq_self_eq_true, if_true, hq, Option.bind_some, e1, e2, tw_pR, ne_eq, ha, not_false_eq_true, decide_true, hf, hlu, hk', Bool.and_self]
  rfl
end TWE
