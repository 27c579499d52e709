/-! small things for the equations -/
def tw_bi (b : Bool) : Int32 := if b = true then 1 else 0
theorem tw_bi_t : tw_bi true = 1 := rfl
theorem tw_bi_f : tw_bi false = 0 := rfl
theorem tw_bi_0 {b : Bool} : (tw_bi b = 0) = (b = false) := by cases b <;> simp [tw_bi]
theorem tw_bi_1 {b : Bool} : (tw_bi b = 1) = (b = true) := by cases b <;> simp [tw_bi]
theorem tw_bi_inj {a b : Bool} : (tw_bi a = tw_bi b) = (a = b) := by cases a <;> cases b <;> simp [tw_bi]
def tw_z (x : Int32) : Bool := decide (x = 0) || decide (x = 1)
theorem tw_z_0 : tw_z 0 = true := rfl
theorem tw_z_1 : tw_z 1 = true := rfl
theorem tw_z_bi (b : Bool) : tw_z (tw_bi b) = true := by cases b <;> rfl
section TWX
variable {mi pc : Nat} {L S : List Value} {h : tw_H}
theorem tw_e_iretI {x : Int32} (hd : decode (tw_c mi) pc = .ok (.ireturn, 1)) (hr : tw_rt mi = some .int) : tw_b mi pc L [.int x] h = some (some (.int x), h) := by
  rw [tw_e_ireturn hd]
  simp [tw_nb, hr]
theorem tw_e_iretZ {x : Int32} (hd : decode (tw_c mi) pc = .ok (.ireturn, 1)) (hr : tw_rt mi = some .boolean) : tw_b mi pc L [.int x] h = if tw_z x = true then some (some (.int x), h) else none := by
  rw [tw_e_ireturn hd]
  simp [tw_nb, hr, tw_z]
end TWX
theorem tw_sg (h : tw_H) (a b : Nat) (e : tw_C) : (tw_set h a e).2.2 b = if b = a then some e else h.2.2 b := rfl
theorem tw_sg1 (h : tw_H) (a : Nat) (e : tw_C) : (tw_set h a e).1 = h.1 := rfl
theorem tw_sg2 (h : tw_H) (a : Nat) (e : tw_C) : (tw_set h a e).2.1 = h.2.1 := rfl
theorem tw_ng (h : tw_H) (b n : Nat) (e : tw_C) : (tw_new h e n).2.2 b = if b = h.1 then some e else h.2.2 b := rfl
theorem tw_ng1 (h : tw_H) (n : Nat) (e : tw_C) : (tw_new h e n).1 = h.1 + 1 := rfl
theorem tw_ng2 (h : tw_H) (n : Nat) (e : tw_C) : (tw_new h e n).2.1 = h.2.1 + n := rfl
theorem tw_ss (h : tw_H) (a : Nat) (e e' : tw_C) : tw_set (tw_set h a e) a e' = tw_set h a e' := by
  unfold tw_set
  simp only [Prod.mk.injEq, true_and]
  funext j
  by_cases hj : j = a <;> simp [hj]
theorem tw_sc (h : tw_H) {a b : Nat} (e e' : tw_C) (hab : a ≠ b) : tw_set (tw_set h a e) b e' = tw_set (tw_set h b e') a e := by
  unfold tw_set
  simp only [Prod.mk.injEq, true_and]
  funext j
  by_cases hj : j = a
  · subst hj
    simp [hab]
  · simp [hj]
/-- a cell that is written with what it holds -/
theorem tw_si (h : tw_H) {a : Nat} {e : tw_C} (he : h.2.2 a = some e) : tw_set h a e = h := by
  unfold tw_set
  refine Prod.ext rfl (Prod.ext rfl ?_)
  funext j
  by_cases hj : j = a
  · subst hj; simp [he]
  · simp [hj]
theorem tw_vi_n {n N : Nat} (h : n < N) (hN : N < 2 ^ 31) : tw_vi (nI n) N = true := by
  unfold tw_vi
  rw [nI_clamp (by omega)]
  simp only [Bool.and_eq_true, decide_eq_true_eq]
  exact ⟨nI_pos' (by omega), h⟩
