/-! sheets: the class's methods -/
section P1
variable {h : tw_H} {wc hk lw st fl : Int32} {gs : Nat → Option Nat} {f : Nat → Int32} {a b n : Nat} {ln : Int32}
theorem x_isSheet (hX : h.2.2 1 = some (xC wc hk lw st fl)) (h2 : h.2.2 2 = some (rC 1 4 gs)) (k : Int32) : tw_b 8 0 [.ref 1, .int k] [] h = some (some (.int (tw_bi (decide (¬ k < 0 ∧ k < 4)))), h) := by
  have hal : tw_al h 2 = some (.int 4) := by simp only [tw_al, h2]; rfl
  by_cases q : k < 0
  · simp [s8_0, s8_1, s8_4, s8_5, s8_6, s8_9, s8_10, s8_13, s8_14, s8_17, s8_18, q, tw_z_0, tw_bi]
  · by_cases q2 : k < 4 <;> simp [s8_0, s8_1, s8_4, s8_5, s8_6, s8_9, s8_10, s8_13, s8_14, s8_17, s8_18, tw_gf, hX, hal, q, q2, tw_z_0, tw_z_1, tw_bi]
def rwV (gs : Nat → Option Nat) (k : Int32) : Value := if tw_vi k 4 = true then tw_rf (gs k.toNatClampNeg) else .null
theorem x_rowOf (hX : h.2.2 1 = some (xC wc hk lw st fl)) (h2 : h.2.2 2 = some (rC 1 4 gs)) (k : Int32) : tw_b 10 0 [.ref 1, .int k] [] h = some (some (rwV gs k), h) := by
  have e : tw_vi k 4 = true ↔ (¬ k < 0 ∧ k < 4) := tw_vi_iff (i := k) (n := 4) (by decide)
  unfold rwV
  by_cases q : ¬ k < 0 ∧ k < 4
  · have e1 : tw_vi k 4 = true := e.mpr q
    have haa : tw_aa h 2 k = some (tw_rf (gs k.toNatClampNeg)) := by simp [tw_aa, h2, e1]
    rw [if_pos e1]
    cases hg : gs k.toNatClampNeg with
    | none => rw [hg] at haa; simp [s10_0, s10_1, s10_2, s10_5, s10_8, s10_9, s10_12, s10_13, s10_14, s10_17, s10_18, s10_18n, xco hX, x_isSheet hX h2, tw_bi_0, q, tw_gf, hX, haa, tw_rf]
    | some a => rw [hg] at haa; simp [s10_0, s10_1, s10_2, s10_5, s10_8, s10_9, s10_12, s10_13, s10_14, s10_17, s10_18, s10_18n, xco hX, x_isSheet hX h2, tw_bi_0, q, tw_gf, hX, haa, tw_rf]
  · have e1 : ¬ tw_vi k 4 = true := fun z => q (e.mp z)
    rw [if_neg e1]
    simp only [s10_0, s10_1, s10_2, s10_5, s10_8, s10_9, s10_12, s10_13, s10_14, s10_17, s10_18, s10_18n, xco hX, x_isSheet hX h2, Option.bind_some, Option.bind_none, Option.toList_some, Option.toList_none, List.cons_append, List.nil_append, tw_bi_0, decide_eq_false q, if_true]
theorem x_faulted (hX : h.2.2 1 = some (xC wc hk lw st fl)) (c : Int32) : tw_b 13 0 [.ref 1, .int c] [] h = some (some (.int (-10 - c)), tw_set h 1 (xC wc hk lw st c)) := by
  simp [s13_0, s13_1, s13_2, s13_5, s13_7, s13_8, s13_9, tw_sf, hX, tw_fit]
def rchB (n : Nat) (i m : Int32) : Bool := decide ((¬ i < 0 ∧ ¬ m < 0) ∧ (¬ nI n < i ∧ ¬ nI n - i < m))
theorem x_reaches (ha : h.2.2 a = some (oC 3 [.int ln, .ref b])) (h0 : a ≠ 0) (hb : h.2.2 b = some (iC n f)) (i m : Int32) : tw_b 12 0 [.ref a, .int i, .int m] [] h = some (some (.int (tw_bi (rchB n i m))), h) := by
  have hal : tw_al h b = some (.int (nI n)) := by simp only [tw_al, hb]; rfl
  unfold rchB
  by_cases q1 : i < 0
  · simp [s12_0, s12_1, s12_4, s12_5, s12_8, s12_9, s12_10, s12_13, s12_14, s12_17, s12_18, s12_19, s12_22, s12_23, s12_24, s12_25, s12_28, s12_29, s12_32, s12_33, q1, tw_z_0, tw_bi]
  · by_cases q2 : m < 0
    · simp [s12_0, s12_1, s12_4, s12_5, s12_8, s12_9, s12_10, s12_13, s12_14, s12_17, s12_18, s12_19, s12_22, s12_23, s12_24, s12_25, s12_28, s12_29, s12_32, s12_33, q1, q2, tw_z_0, tw_bi]
    · by_cases q3 : nI n < i
      · simp [s12_0, s12_1, s12_4, s12_5, s12_8, s12_9, s12_10, s12_13, s12_14, s12_17, s12_18, s12_19, s12_22, s12_23, s12_24, s12_25, s12_28, s12_29, s12_32, s12_33, tw_gf, ha, h0, hal, q1, q2, q3, tw_z_0, tw_bi]
      · by_cases q4 : nI n - i < m
        · simp [s12_0, s12_1, s12_4, s12_5, s12_8, s12_9, s12_10, s12_13, s12_14, s12_17, s12_18, s12_19, s12_22, s12_23, s12_24, s12_25, s12_28, s12_29, s12_32, s12_33, tw_gf, ha, h0, hal, q1, q2, q3, q4, tw_z_0, tw_bi]
        · simp [s12_0, s12_1, s12_4, s12_5, s12_8, s12_9, s12_10, s12_13, s12_14, s12_17, s12_18, s12_19, s12_22, s12_23, s12_24, s12_25, s12_28, s12_29, s12_32, s12_33, tw_gf, ha, h0, hal, q1, q2, q3, q4, tw_z_1, tw_bi]
def fcF (ln : Int32) (n : Nat) (lane i m : Int32) : Int32 := if ln = lane then (if m < 0 then 4 else if rchB n i m = true then 0 else 3) else 2
theorem x_fault0 (lane i m : Int32) : tw_b 11 0 [.null, .int lane, .int i, .int m] [] h = some (some (.int 1), h) := by
  simp [s11_0, s11_0n, s11_1, s11_1n, s11_4, s11_5, s11_6, s11_6n, s11_7, s11_10, s11_11, s11_14, s11_15, s11_16, s11_17, s11_20, s11_21, s11_22, s11_22n, s11_23, s11_24, s11_25, s11_28, s11_31, s11_32, s11_35, s11_36]
theorem x_fault (ha : h.2.2 a = some (oC 3 [.int ln, .ref b])) (h0 : a ≠ 0) (hb : h.2.2 b = some (iC n f)) (lane i m : Int32) : tw_b 11 0 [.ref a, .int lane, .int i, .int m] [] h = some (some (.int (fcF ln n lane i m)), h) := by
  have hco : tw_co h a = some 3 := by simp [tw_co, ha, h0]
  unfold fcF
  by_cases q1 : ln = lane
  · by_cases q2 : m < 0
    · simp [s11_0, s11_0n, s11_1, s11_1n, s11_4, s11_5, s11_6, s11_6n, s11_7, s11_10, s11_11, s11_14, s11_15, s11_16, s11_17, s11_20, s11_21, s11_22, s11_22n, s11_23, s11_24, s11_25, s11_28, s11_31, s11_32, s11_35, s11_36, tw_gf, ha, h0, q1, q2]
    · by_cases q3 : rchB n i m = true
      · simp [s11_0, s11_0n, s11_1, s11_1n, s11_4, s11_5, s11_6, s11_6n, s11_7, s11_10, s11_11, s11_14, s11_15, s11_16, s11_17, s11_20, s11_21, s11_22, s11_22n, s11_23, s11_24, s11_25, s11_28, s11_31, s11_32, s11_35, s11_36, tw_gf, ha, h0, hco, q1, q2, x_reaches ha h0 hb, tw_bi_0, q3]
      · simp [s11_0, s11_0n, s11_1, s11_1n, s11_4, s11_5, s11_6, s11_6n, s11_7, s11_10, s11_11, s11_14, s11_15, s11_16, s11_17, s11_20, s11_21, s11_22, s11_22n, s11_23, s11_24, s11_25, s11_28, s11_31, s11_32, s11_35, s11_36, tw_gf, ha, h0, hco, q1, q2, x_reaches ha h0 hb, tw_bi_0, q3]
  · simp [s11_0, s11_0n, s11_1, s11_1n, s11_4, s11_5, s11_6, s11_6n, s11_7, s11_10, s11_11, s11_14, s11_15, s11_16, s11_17, s11_20, s11_21, s11_22, s11_22n, s11_23, s11_24, s11_25, s11_28, s11_31, s11_32, s11_35, s11_36, tw_gf, ha, h0, q1]
theorem x_get (ha : h.2.2 a = some (oC 3 [.int ln, .ref b])) (h0 : a ≠ 0) (hb : h.2.2 b = some (iC n f)) (hn : n < 2 ^ 31) (i : Int32) : tw_b 74 0 [.ref a, .int i] [] h = some (some (.int (atF n f i)), h) := by
  simp [s74_0, s74_1, s74_4, s74_5, s74_8, tw_gf, ha, h0, x_at i hb hn]
def ctF (ln v : Int32) : Int32 := if ln = 0 then v.toInt8.toInt32 else if ln = 1 then v.toInt16.toInt32 else v
theorem x_cut (ha : h.2.2 a = some (oC 3 [.int ln, .ref b])) (h0 : a ≠ 0) (v : Int32) : tw_b 92 0 [.ref a, .int v] [] h = some (some (.int (ctF ln v)), h) := by
  unfold ctF
  by_cases q1 : ln = 0
  · simp [s92_0, s92_1, s92_4, s92_32, s92_33, s92_34, s92_35, s92_36, s92_37, s92_38, s92_39, tw_gf, ha, h0, q1]
  · by_cases q2 : ln = 1
    · simp [s92_0, s92_1, s92_4, s92_32, s92_33, s92_34, s92_35, s92_36, s92_37, s92_38, s92_39, tw_gf, ha, h0, q2]
    · simp [s92_0, s92_1, s92_4, s92_32, s92_33, s92_34, s92_35, s92_36, s92_37, s92_38, s92_39, tw_gf, ha, h0, q1, q2]
theorem x_rset (ha : h.2.2 a = some (oC 3 [.int ln, .ref b])) (h0 : a ≠ 0) (hb : h.2.2 b = some (iC n f)) (hb0 : b ≠ 0) {i : Nat} (hi : i < n) (hn : n < 2 ^ 31) (v : Int32) : tw_b 91 0 [.ref a, .int (nI i), .int v] [] h = some (none, tw_set h b (iC n (upd f i (ctF ln v)))) := by
  have hal : tw_al h b = some (.int (nI n)) := by simp only [tw_al, hb]; rfl
  have hco : tw_co h a = some 3 := by simp [tw_co, ha, h0]
  have q1 : ¬ nI i < 0 := nI_pos (by omega)
  have q2 : nI i < nI n := nI_lt hi hn
  simp [s91_0, s91_1, s91_4, s91_5, s91_6, s91_9, s91_10, s91_13, s91_14, s91_17, s91_18, s91_19, s91_20, s91_23, s91_24, tw_gf, ha, h0, hal, hco, q1, q2, x_cut ha h0, tw_ix, hb, hb0, tw_vi_n hi hn, nI_clamp (show i < 2 ^ 31 by omega)]
/-- a new row -/
theorem x_rowInit {m : Nat} (hm : m ≤ 1000) (ha : h.2.2 a = some (oC 3 [.int 0, .null])) (h0 : a ≠ 0) (ha1 : a ≠ h.1) (h1 : h.1 ≠ 0) : tw_b 88 0 [.ref a, .int ln, .int (nI m)] [] h = some (none, tw_set (tw_new (tw_set h a (oC 3 [.int ln, .null])) (iC m (fun _ => 0)) m) a (oC 3 [.int ln, .ref h.1])) := by
  have q1 : ¬ nI m < 0 := nI_pos (by omega)
  have q2 : tw_ok (nI m) = true := by
    unfold tw_ok
    rw [nI_clamp (by omega)]
    simp [nI_pos' (show m < 2 ^ 31 by omega), hm]
  simp [s88_0, s88_1, s88_4, s88_5, s88_6, s88_9, s88_10, s88_11, s88_12, s88_15, s88_17, s88_20, h0, tw_sf, ha, tw_fit, q1, q2, tw_sg1, tw_ng, ha1, tw_sg, nI_clamp (show m < 2 ^ 31 by omega)]
end P1
