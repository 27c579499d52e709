/-! the model's small methods -/
abbrev mC (fl tc wc hk lw st hg ra rt rw ns nr tr : Int32) : tw_C := oC 11 [.int fl, .int tc, .ref 28, .int wc, .ref 29, .ref 30, .int hk, .int lw, .int st, .int hg, .int ra, .int rt, .int rw, .ref 31, .ref 32, .ref 33, .int ns, .ref 34, .ref 35, .ref 36, .int nr, .ref 37, .ref 38, .ref 39, .ref 40, .ref 41, .ref 42, .ref 43, .int tr]
theorem m_in (v l u : Int64) (h : tw_H) : tw_b 111 0 [.long v, tw_un, .long l, tw_un, .long u, tw_un] [] h = some (some (.int (tw_bi (decide (l ≤ v ∧ v ≤ u)))), h) := by
  have e1 : (lg_cmp v l < 0) = ¬ l ≤ v := by rw [← lg_cmp_ge, ← Int32.not_lt, Classical.not_not]
  have e2 : (0 < lg_cmp v u) = ¬ v ≤ u := by rw [← lg_cmp_le, ← Int32.not_lt, Classical.not_not]
  by_cases q : l ≤ v
  · by_cases q2 : v ≤ u
    · rw [decide_eq_true ⟨q, q2⟩]
      simp only [s111_0, s111_1, s111_2, s111_3, s111_6, s111_7, s111_9, s111_10, s111_13, s111_14, s111_17, s111_18, e1, e2, q, q2, not_true_eq_false, if_false, tw_z_1, if_true]; rfl
    · rw [decide_eq_false (fun z => q2 z.2)]
      simp only [s111_0, s111_1, s111_2, s111_3, s111_6, s111_7, s111_9, s111_10, s111_13, s111_14, s111_17, s111_18, e1, e2, q, q2, not_true_eq_false, not_false_eq_true, if_false, tw_z_0, if_true]; rfl
  · rw [decide_eq_false (fun z => q z.1)]
    simp only [s111_0, s111_1, s111_2, s111_3, s111_6, s111_7, s111_9, s111_10, s111_13, s111_14, s111_17, s111_18, e1, e2, q, not_true_eq_false, not_false_eq_true, if_false, tw_z_0, if_true]; rfl
theorem l_ge (k : Int32) (c : Int64) (c' : Int32) (hc : c = c'.toInt64) : (c ≤ k.toInt64) = ¬ k < c' := by
  rw [hc, Int64.le_iff_toInt_le, Int32.lt_iff_toInt_lt, Int32.toInt_toInt64, Int32.toInt_toInt64]
  exact propext (by omega)
theorem l_le (k : Int32) (c : Int64) (c' : Int32) (hc : c = c'.toInt64) : (k.toInt64 ≤ c) = ¬ c' < k := by
  rw [hc, Int64.le_iff_toInt_le, Int32.lt_iff_toInt_lt, Int32.toInt_toInt64, Int32.toInt_toInt64]
  exact propext (by omega)
theorem l_sub1 (w : Int32) : (w.toInt64 - 1).toInt = w.toInt - 1 := by
  have h1 := Int32.le_toInt w
  have h2 := Int32.toInt_lt w
  rw [Int64.toInt_sub, Int32.toInt_toInt64]
  have : (1 : Int64).toInt = 1 := rfl
  rw [this, Int.bmod_eq_of_le (by omega) (by omega)]
theorem l_lt (k w : Int32) : (k.toInt64 ≤ w.toInt64 - 1) = (k < w) := by
  rw [Int64.le_iff_toInt_le, Int32.lt_iff_toInt_lt, l_sub1, Int32.toInt_toInt64]
  exact propext (by omega)
theorem m_noSheet (k : Int32) (h : tw_H) : tw_b 110 0 [.int k] [] h = some (some (.int (tw_bi (! decide (¬ k < 0 ∧ k < 4)))), h) := by
  have e : (¬ k < 0 ∧ ¬ 3 < k) = (¬ k < 0 ∧ k < 4) := by
    rw [Int32.lt_iff_toInt_lt, Int32.lt_iff_toInt_lt, Int32.lt_iff_toInt_lt]
    have : (3 : Int32).toInt = 3 := rfl
    have : (4 : Int32).toInt = 4 := rfl
    exact propext (by omega)
  simp only [s110_0, s110_1, s110_2, s110_3, s110_6, s110_9, s110_12, s110_13, s110_16, s110_17, m_in, Option.bind_some, Option.bind_none, Option.toList_some, Option.toList_none, List.cons_append, List.nil_append, tw_bi_0, l_ge k 0 0 rfl, l_le k 3 3 rfl, e]
  by_cases q : ¬ k < 0 ∧ k < 4
  · rw [decide_eq_true q]; simp [tw_z_0, tw_bi]
  · rw [decide_eq_false q]; simp [tw_z_1, tw_bi]
theorem m_isHour (k : Int32) (h : tw_H) : tw_b 130 0 [.int k] [] h = some (some (.int (tw_bi (decide (¬ k < 0 ∧ k < 60)))), h) := by
  have e : (¬ k < 0 ∧ ¬ 59 < k) = (¬ k < 0 ∧ k < 60) := by
    rw [Int32.lt_iff_toInt_lt, Int32.lt_iff_toInt_lt, Int32.lt_iff_toInt_lt]
    have : (59 : Int32).toInt = 59 := rfl
    have : (60 : Int32).toInt = 60 := rfl
    exact propext (by omega)
  simp only [s130_0, s130_1, s130_2, s130_3, s130_6, s130_9, m_in, Option.bind_some, Option.bind_none, Option.toList_some, Option.toList_none, List.cons_append, List.nil_append, l_ge k 0 0 rfl, l_le k 59 59 rfl, e, tw_z_bi, if_true]
theorem m_isIn (set k : Int32) (h : tw_H) : tw_b 125 0 [.int set, .int k] [] h = some (some (.int (tw_bi (hasB set k))), h) := by
  have e : ((set >>> (k &&& 31)) &&& 1 = 1) = ¬ ((set >>> (k &&& 31)) &&& 1 = 0) := by
    generalize set >>> (k &&& 31) = y
    have hb : y &&& 1 = 0 ∨ y &&& 1 = 1 := by
      rw [← Int32.toBitVec_inj, ← Int32.toBitVec_inj, Int32.toBitVec_and]
      show y.toBitVec &&& 1#32 = 0#32 ∨ y.toBitVec &&& 1#32 = 1#32
      cases hb : y.toBitVec.getLsbD 0
      · left
        ext i hi
        by_cases h0 : i = 0
        · subst h0; simp [BitVec.getLsbD_eq_getElem] at hb ⊢; exact hb
        · simp [h0]
      · right
        ext i hi
        by_cases h0 : i = 0
        · subst h0; simp [BitVec.getLsbD_eq_getElem] at hb ⊢; exact hb
        · simp [h0]
    rcases hb with z | z <;> rw [z] <;> simp
  simp only [s125_0, s125_1, s125_2, s125_3, s125_4, s125_5, s125_6, s125_9, s125_10, s125_13, s125_14, hasB, e]
  by_cases q : (set >>> (k &&& 31)) &&& 1 = 0
  · simp [q, tw_z_0, tw_bi]
  · simp [q, tw_z_1, tw_bi]
section M1
variable {h : tw_H} {fl tc wc hk lw st hg ra rt rw ns nr tr : Int32}
theorem mco (hM : h.2.2 27 = some (mC fl tc wc hk lw st hg ra rt rw ns nr tr)) : tw_co h 27 = some 11 := by simp [tw_co, hM]
theorem m_refused (hM : h.2.2 27 = some (mC fl tc wc hk lw st hg ra rt rw ns nr tr)) (c : Int32) : tw_b 112 0 [.ref 27, .int c] [] h = some (some (.int c), tw_set h 27 (mC 0 tc wc hk lw st hg ra rt rw ns nr tr)) := by
  simp [s112_0, s112_1, s112_2, s112_5, s112_6, tw_sf, hM, tw_fit]
theorem m_failed (hM : h.2.2 27 = some (mC fl tc wc hk lw st hg ra rt rw ns nr tr)) (c : Int32) : tw_b 114 0 [.ref 27, .int c] [] h = some (some (.int (-10 - c)), tw_set h 27 (mC c tc wc hk lw st hg ra rt rw ns nr tr)) := by
  simp [s114_0, s114_1, s114_2, s114_5, s114_7, s114_8, s114_9, tw_sf, hM, tw_fit]
theorem m_every (hM : h.2.2 27 = some (mC fl tc wc hk lw st hg ra rt rw ns nr tr)) : tw_b 121 0 [.ref 27] [] h = some (some (.int (bitI wc - 1)), h) := by
  simp [s121_0, s121_1, s121_2, s121_5, s121_6, s121_7, s121_8, tw_gf, hM, bitI]
theorem m_noWork (hM : h.2.2 27 = some (mC fl tc wc hk lw st hg ra rt rw ns nr tr)) (k : Int32) : tw_b 123 0 [.ref 27, .int k] [] h = some (some (.int (tw_bi (! decide (¬ k < 0 ∧ k < wc)))), h) := by
  have e1 : ((0 : Int64) ≤ k.toInt64) = ¬ k < 0 := l_ge k 0 0 rfl
  by_cases q : ¬ k < 0 ∧ k < wc
  · rw [decide_eq_true q]
    simp [s123_0, s123_1, s123_2, s123_3, s123_4, s123_7, s123_8, s123_9, s123_10, s123_13, s123_16, s123_17, s123_20, s123_21, tw_gf, hM, m_in, e1, l_lt, q, tw_bi, tw_z_0]
  · have q2 : decide (¬ k < 0 ∧ k < wc) = false := decide_eq_false q
    have hi := m_in k.toInt64 0 (wc.toInt64 - 1) h
    rw [show decide (0 ≤ k.toInt64 ∧ k.toInt64 ≤ wc.toInt64 - 1) = false from by rw [decide_eq_false_iff_not, e1, l_lt]; exact q] at hi
    rw [q2]
    simp [s123_0, s123_1, s123_2, s123_3, s123_4, s123_7, s123_8, s123_9, s123_10, s123_13, s123_16, s123_17, s123_20, s123_21, tw_gf, hM, hi, tw_bi, tw_z_1]
theorem m_refusedFor (hM : h.2.2 27 = some (mC fl tc wc hk lw st hg ra rt rw ns nr tr)) (k : Int32) : tw_b 133 0 [.ref 27, .int k] [] h = some (some (.int (if ¬ k < 0 ∧ k < 60 then (if wc = 0 then -3 else 0) else -2)), h) := by
  by_cases q : ¬ k < 0 ∧ k < 60
  · by_cases q2 : wc = 0 <;> simp [s133_0, s133_1, s133_4, s133_7, s133_9, s133_12, s133_13, s133_16, s133_19, s133_21, s133_24, s133_25, m_isHour, tw_bi_0, tw_gf, hM, q, q2]
  · simp only [s133_0, s133_1, s133_4, s133_7, s133_9, s133_12, s133_13, s133_16, s133_19, s133_21, s133_24, s133_25, m_isHour, Option.bind_some, Option.bind_none, Option.toList_some, Option.toList_none, List.cons_append, List.nil_append, tw_bi_0, decide_eq_false q, if_true, if_neg q]
/-- the hours' strength -/
theorem m_str_loop {f34 f35 : Nat → Int32} {n : Nat} (hM : h.2.2 27 = some (mC fl tc wc hk lw st hg ra rt rw (nI n) nr tr)) (h34 : h.2.2 34 = some (iC 7 f34)) (h35 : h.2.2 35 = some (iC 7 f35)) (hn : n ≤ 7) (hour : Int32) : ∀ (d s : Nat) (acc : Int32), s + d = n → tw_b 134 19 [.ref 27, .int hour, .int acc, .int (nI s)] [] h = some (some (.int (let x := stS f34 f35 hour s d acc; if x < 0 then 0 else x)), h) := by
  intro d
  induction d with
  | zero =>
    intro s acc hd
    have e : ¬ nI s < nI n := nI_nlt (by omega) (by omega)
    rw [s134_19]
    by_cases q : acc < 0 <;> simp [s134_0, s134_1, s134_4, s134_5, s134_8, s134_9, s134_10, s134_11, s134_14, s134_15, s134_16, s134_17, s134_18, s134_20, s134_21, s134_24, s134_27, s134_28, s134_29, s134_32, s134_33, s134_34, s134_35, s134_38, s134_39, s134_42, s134_43, s134_44, s134_47, s134_48, s134_49, s134_50, s134_53, s134_56, s134_57, s134_60, s134_61, s134_64, s134_65, tw_gf, hM, e, stS, q]
  | succ d ih =>
    intro s acc hd
    have e : nI s < nI n := nI_lt (by omega) (by omega)
    have ev := tw_vi_n (show s < 7 by omega) (by decide)
    have ec := nI_clamp (show s < 2 ^ 31 by omega)
    have ih' := ih (s + 1) (acc + if f34 s = hour then f35 s else 0) (by omega)
    rw [s134_19]
    by_cases q : f34 s = hour
    · simp only [q, if_true] at ih'
      simp [s134_0, s134_1, s134_4, s134_5, s134_8, s134_9, s134_10, s134_11, s134_14, s134_15, s134_16, s134_17, s134_18, s134_20, s134_21, s134_24, s134_27, s134_28, s134_29, s134_32, s134_33, s134_34, s134_35, s134_38, s134_39, s134_42, s134_43, s134_44, s134_47, s134_48, s134_49, s134_50, s134_53, s134_56, s134_57, s134_60, s134_61, s134_64, s134_65, tw_gf, tw_ia, hM, h34, h35, e, ev, ec, q, nI_1, ih', stS]
    · simp only [q, if_false, Int32.add_zero] at ih'
      simp [s134_0, s134_1, s134_4, s134_5, s134_8, s134_9, s134_10, s134_11, s134_14, s134_15, s134_16, s134_17, s134_18, s134_20, s134_21, s134_24, s134_27, s134_28, s134_29, s134_32, s134_33, s134_34, s134_35, s134_38, s134_39, s134_42, s134_43, s134_44, s134_47, s134_48, s134_49, s134_50, s134_53, s134_56, s134_57, s134_60, s134_61, s134_64, s134_65, tw_gf, tw_ia, hM, h34, h35, e, ev, ec, q, nI_1, ih', stS]
def strM (tc : Int32) (tf : Nat → Int32) (n : Nat) (f34 f35 : Nat → Int32) (st hour : Int32) : Int32 := let x := stS f34 f35 hour 0 n (atF 6 tf ((st + hour) - (st + hour) / tc * tc)); if x < 0 then 0 else x
theorem m_strengthOf {tf f34 f35 : Nat → Int32} {n : Nat} (hM : h.2.2 27 = some (mC fl tc wc hk lw st hg ra rt rw (nI n) nr tr)) (h28 : h.2.2 28 = some (iC 6 tf)) (h34 : h.2.2 34 = some (iC 7 f34)) (h35 : h.2.2 35 = some (iC 7 f35)) (hn : n ≤ 7) (htc : ¬ tc = 0) (hour : Int32) (hv : tw_vi ((st + hour) - (st + hour) / tc * tc) 6 = true) : tw_b 134 0 [.ref 27, .int hour, tw_un, tw_un] [] h = some (some (.int (strM tc tf n f34 f35 st hour)), h) := by
  have hl := m_str_loop hM h34 h35 hn hour n 0 (atF 6 tf ((st + hour) - (st + hour) / tc * tc)) (by omega)
  rw [nI_0] at hl
  have e : tf ((st + hour) - (st + hour) / tc * tc).toNatClampNeg = atF 6 tf ((st + hour) - (st + hour) / tc * tc) := by unfold atF; rw [if_pos hv]
  simp [s134_0, s134_1, s134_4, s134_5, s134_8, s134_9, s134_10, s134_11, s134_14, s134_15, s134_16, s134_17, s134_18, s134_20, s134_21, s134_24, s134_27, s134_28, s134_29, s134_32, s134_33, s134_34, s134_35, s134_38, s134_39, s134_42, s134_43, s134_44, s134_47, s134_48, s134_49, s134_50, s134_53, s134_56, s134_57, s134_60, s134_61, s134_64, s134_65, tw_gf, tw_ia, hM, h28, htc, hv, e, hl, strM]
/-- what the works take -/
def tkK (kd wt : Int32) : Int32 := if kd = 0 then wt else if kd = 1 then wt + 1 else 2 * (wt + 1)
theorem m_takesOf {kd wt : Nat → Int32} (hM : h.2.2 27 = some (mC fl tc wc hk lw st hg ra rt rw ns nr tr)) (h29 : h.2.2 29 = some (iC 8 kd)) (h30 : h.2.2 30 = some (iC 8 wt)) {k : Nat} (hk8 : k < 8) : tw_b 124 0 [.ref 27, .int (nI k), tw_un] [] h = some (some (.int (tkK (kd k) (wt k))), h) := by
  have ev := tw_vi_n (show k < 8 by omega) (by decide)
  have ec := nI_clamp (show k < 2 ^ 31 by omega)
  unfold tkK
  by_cases q : kd k = 0
  · simp [s124_0, s124_1, s124_4, s124_5, s124_6, s124_7, s124_8, s124_11, s124_12, s124_13, s124_16, s124_17, s124_20, s124_21, s124_24, s124_25, s124_26, s124_27, s124_30, s124_31, s124_32, s124_33, s124_36, s124_37, s124_38, s124_39, s124_40, s124_41, tw_gf, tw_ia, hM, h29, h30, ev, ec, q]
  · by_cases q2 : kd k = 1
    · simp [s124_0, s124_1, s124_4, s124_5, s124_6, s124_7, s124_8, s124_11, s124_12, s124_13, s124_16, s124_17, s124_20, s124_21, s124_24, s124_25, s124_26, s124_27, s124_30, s124_31, s124_32, s124_33, s124_36, s124_37, s124_38, s124_39, s124_40, s124_41, tw_gf, tw_ia, hM, h29, h30, ev, ec, q2]
    · simp [s124_0, s124_1, s124_4, s124_5, s124_6, s124_7, s124_8, s124_11, s124_12, s124_13, s124_16, s124_17, s124_20, s124_21, s124_24, s124_25, s124_26, s124_27, s124_30, s124_31, s124_32, s124_33, s124_36, s124_37, s124_38, s124_39, s124_40, s124_41, tw_gf, tw_ia, hM, h29, h30, ev, ec, q, q2]
theorem m_takesNow {kd wt : Nat → Int32} (hM : h.2.2 27 = some (mC fl tc wc hk lw st hg ra rt rw ns nr tr)) (h29 : h.2.2 29 = some (iC 8 kd)) (h30 : h.2.2 30 = some (iC 8 wt)) {k : Nat} (hk8 : k < 8) : tw_b 138 0 [.ref 27, .int (nI k)] [] h = some (some (.int (tkK (kd k) (wt k) + if nI k = hg then 1 else 0)), h) := by
  by_cases q : nI k = hg
  · simp [s138_0, s138_1, s138_2, s138_5, s138_6, s138_9, s138_10, s138_13, s138_14, s138_17, s138_18, s138_19, tw_gf, hM, mco hM, m_takesOf hM h29 h30 hk8, q.symm]
  · simp [s138_0, s138_1, s138_2, s138_5, s138_6, s138_9, s138_10, s138_13, s138_14, s138_17, s138_18, s138_19, tw_gf, hM, mco hM, m_takesOf hM h29 h30 hk8, q, show ¬ hg = nI k from fun z => q z.symm]
end M1
