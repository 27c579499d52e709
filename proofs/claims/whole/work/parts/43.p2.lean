/-! sheets: the model's methods -/
theorem bey_rch {n : Nat} (hn : n < 2 ^ 31) (i m : Int32) : decide (i < 0 ∨ m.toInt64 < 0 ∨ (nI n).toInt64 < i.toInt64 + m.toInt64) = ! rchB n i m := by
  have hni := nI_toInt hn
  have i1 := Int32.le_toInt i
  have i2 := Int32.toInt_lt i
  have m1 := Int32.le_toInt m
  have m2 := Int32.toInt_lt m
  have z : (0 : Int32).toInt = 0 := rfl
  have z2 : (0 : Int64).toInt = 0 := rfl
  have e1 : (i < 0) = (i.toInt < 0) := by rw [Int32.lt_iff_toInt_lt, z]
  have e2 : (m < 0) = (m.toInt < 0) := by rw [Int32.lt_iff_toInt_lt, z]
  have e3 : (m.toInt64 < 0) = (m.toInt < 0) := by rw [Int64.lt_iff_toInt_lt, z2, Int32.toInt_toInt64]
  have e4 : ((nI n).toInt64 < i.toInt64 + m.toInt64) = ((n : Int) < i.toInt + m.toInt) := by
    rw [Int64.lt_iff_toInt_lt, Int64.toInt_add, Int32.toInt_toInt64, Int32.toInt_toInt64, Int32.toInt_toInt64, hni, Int.bmod_eq_of_le (by omega) (by omega)]
  have e5 : (nI n < i) = ((n : Int) < i.toInt) := by rw [Int32.lt_iff_toInt_lt, hni]
  unfold rchB
  by_cases q1 : i.toInt < 0
  · simp [e1, q1]
  · by_cases q2 : m.toInt < 0
    · simp [e2, e3, q2]
    · by_cases q3 : (n : Int) < i.toInt
      · have : (n : Int) < i.toInt + m.toInt := by omega
        simp [e4, e5, q3, this]
      · have e6 : (nI n - i < m) = ((n : Int) < i.toInt + m.toInt) := by
          rw [Int32.lt_iff_toInt_lt, Int32.toInt_sub, hni, Int.bmod_eq_of_le (by omega) (by omega)]
          exact propext (by omega)
        by_cases q4 : (n : Int) < i.toInt + m.toInt
        · simp [e4, e6, q4]
        · simp [e1, e2, e3, e4, e5, e6, q1, q2, q3, q4]
theorem rch_1 {n : Nat} (hn : n < 2 ^ 31) (i : Int32) : rchB n i 1 = decide (¬ i < 0 ∧ i < nI n) := by
  have hni := nI_toInt hn
  have i1 := Int32.le_toInt i
  have i2 := Int32.toInt_lt i
  have z : (0 : Int32).toInt = 0 := rfl
  have z1 : (1 : Int32).toInt = 1 := rfl
  have e1 : (i < 0) = (i.toInt < 0) := by rw [Int32.lt_iff_toInt_lt, z]
  have e5 : (nI n < i) = ((n : Int) < i.toInt) := by rw [Int32.lt_iff_toInt_lt, hni]
  have e7 : (i < nI n) = (i.toInt < (n : Int)) := by rw [Int32.lt_iff_toInt_lt, hni]
  unfold rchB
  by_cases q1 : i.toInt < 0
  · simp [e1, q1]
  · by_cases q3 : (n : Int) < i.toInt
    · have : ¬ i.toInt < (n : Int) := by omega
      simp [e5, e7, q3, this]
    · have e6 : (nI n - i < 1) = ((n : Int) < i.toInt + 1) := by
        rw [Int32.lt_iff_toInt_lt, Int32.toInt_sub, hni, z1, Int.bmod_eq_of_le (by omega) (by omega)]
        exact propext (by omega)
      by_cases q4 : (n : Int) < i.toInt + 1
      · have : ¬ i.toInt < (n : Int) := by omega
        simp [e6, e7, q4, this]
      · have : i.toInt < (n : Int) := by omega
        have q5 : ¬ (1 : Int32) < 0 := by decide
        simp [e1, e5, e6, e7, q1, q3, q4, this, q5]
theorem m_isBeyond (i all : Int32) (m : Int64) (h : tw_H) : tw_b 115 0 [.int i, .long m, tw_un, .int all] [] h = some (some (.int (tw_bi (decide (i < 0 ∨ m < 0 ∨ all.toInt64 < i.toInt64 + m)))), h) := by
  have e1 : (lg_cmp m 0 < 0) = (m < 0) := propext (lg_cmp_lt m 0)
  have e2 : (0 < lg_cmp (i.toInt64 + m) all.toInt64) = (all.toInt64 < i.toInt64 + m) := propext (lg_cmp_gt _ _)
  by_cases q1 : i < 0
  · simp [s115_0, s115_1, s115_4, s115_5, s115_6, s115_7, s115_10, s115_11, s115_12, s115_13, s115_14, s115_15, s115_16, s115_17, s115_20, s115_21, s115_24, s115_25, q1, tw_z_1, tw_bi]
  · by_cases q2 : m < 0
    · simp [s115_0, s115_1, s115_4, s115_5, s115_6, s115_7, s115_10, s115_11, s115_12, s115_13, s115_14, s115_15, s115_16, s115_17, s115_20, s115_21, s115_24, s115_25, q1, e1, q2, tw_z_1, tw_bi]
    · by_cases q3 : all.toInt64 < i.toInt64 + m
      · simp [s115_0, s115_1, s115_4, s115_5, s115_6, s115_7, s115_10, s115_11, s115_12, s115_13, s115_14, s115_15, s115_16, s115_17, s115_20, s115_21, s115_24, s115_25, q1, e1, e2, q2, q3, tw_z_1, tw_bi]
      · simp [s115_0, s115_1, s115_4, s115_5, s115_6, s115_7, s115_10, s115_11, s115_12, s115_13, s115_14, s115_15, s115_16, s115_17, s115_20, s115_21, s115_24, s115_25, q1, e1, e2, q2, q3, tw_z_0, tw_bi]
section P2
variable {h : tw_H} {fl tc wc hk lw st hg ra rt rw ns nr tr : Int32} {sz ln sf hd : Nat → Int32} {k n : Nat}
/-- the model's sheets -/
def MH (h : tw_H) (sz ln sf hd : Nat → Int32) : Prop := h.2.2 40 = some (iC 4 sz) ∧ h.2.2 41 = some (iC 4 ln) ∧ h.2.2 42 = some (iC 240 sf) ∧ h.2.2 43 = some (iC 60 hd)
theorem m_barred0 (hM : h.2.2 27 = some (mC fl tc wc hk lw st hg ra rt rw ns nr tr)) (hH : MH h sz ln sf hd) (hk4 : k < 4) (hs : sz k = -1) (lane i : Int32) (m : Int64) : tw_b 113 0 [.ref 27, .int (nI k), .int lane, .int i, .long m, tw_un] [] h = some (some (.int (-11)), tw_set h 27 (mC 1 tc wc hk lw st hg ra rt rw ns nr tr)) := by
  have ev := tw_vi_n (show k < 4 by omega) (by decide)
  have ec := nI_clamp (show k < 2 ^ 31 by omega)
  simp [s113_0, s113_1, s113_4, s113_5, s113_6, s113_9, s113_10, s113_13, s113_14, s113_15, s113_16, s113_19, s113_20, s113_21, s113_24, s113_25, s113_26, s113_29, s113_30, s113_31, s113_34, s113_35, s113_36, s113_39, s113_40, s113_42, s113_43, s113_44, s113_47, s113_48, s113_49, s113_52, s113_53, s113_54, s113_56, s113_57, s113_60, s113_61, s113_62, s113_65, s113_68, s113_69, s113_70, s113_73, s113_76, s113_77, tw_gf, tw_ia, hM, mco hM, hH.1, ev, ec, hs, m_failed hM]
theorem m_barred (hM : h.2.2 27 = some (mC fl tc wc hk lw st hg ra rt rw ns nr tr)) (hH : MH h sz ln sf hd) (hk4 : k < 4) (hs : sz k = nI n) (hn : n < 2 ^ 31) (lane i m : Int32) : tw_b 113 0 [.ref 27, .int (nI k), .int lane, .int i, .long m.toInt64, tw_un] [] h = (if fcF (ln k) n lane i m = 0 then some (some (.int 0), h) else some (some (.int (-10 - fcF (ln k) n lane i m)), tw_set h 27 (mC (fcF (ln k) n lane i m) tc wc hk lw st hg ra rt rw ns nr tr))) := by
  have ev := tw_vi_n (show k < 4 by omega) (by decide)
  have ec := nI_clamp (show k < 2 ^ 31 by omega)
  have e0 : ¬ nI n < 0 := nI_pos hn
  have e1 : (lg_cmp m.toInt64 0 < 0) = (m < 0) := by
    rw [propext (lg_cmp_lt m.toInt64 0), Int64.lt_iff_toInt_lt, Int32.lt_iff_toInt_lt, Int32.toInt_toInt64]
    rfl
  have eb := m_isBeyond i (nI n) m.toInt64 h
  rw [bey_rch hn] at eb
  unfold fcF
  by_cases q1 : ln k = lane
  · by_cases q2 : m < 0
    · simp [s113_0, s113_1, s113_4, s113_5, s113_6, s113_9, s113_10, s113_13, s113_14, s113_15, s113_16, s113_19, s113_20, s113_21, s113_24, s113_25, s113_26, s113_29, s113_30, s113_31, s113_34, s113_35, s113_36, s113_39, s113_40, s113_42, s113_43, s113_44, s113_47, s113_48, s113_49, s113_52, s113_53, s113_54, s113_56, s113_57, s113_60, s113_61, s113_62, s113_65, s113_68, s113_69, s113_70, s113_73, s113_76, s113_77, tw_gf, tw_ia, hM, mco hM, hH.1, hH.2.1, ev, ec, hs, e0, q1, e1, q2, m_failed hM]
    · by_cases q3 : rchB n i m = true
      · rw [q3] at eb
        simp [s113_0, s113_1, s113_4, s113_5, s113_6, s113_9, s113_10, s113_13, s113_14, s113_15, s113_16, s113_19, s113_20, s113_21, s113_24, s113_25, s113_26, s113_29, s113_30, s113_31, s113_34, s113_35, s113_36, s113_39, s113_40, s113_42, s113_43, s113_44, s113_47, s113_48, s113_49, s113_52, s113_53, s113_54, s113_56, s113_57, s113_60, s113_61, s113_62, s113_65, s113_68, s113_69, s113_70, s113_73, s113_76, s113_77, tw_gf, tw_ia, hM, mco hM, hH.1, hH.2.1, ev, ec, hs, e0, q1, e1, q2, eb, tw_bi_0, q3]
      · have q3' : rchB n i m = false := by simpa using q3
        rw [q3'] at eb
        simp [s113_0, s113_1, s113_4, s113_5, s113_6, s113_9, s113_10, s113_13, s113_14, s113_15, s113_16, s113_19, s113_20, s113_21, s113_24, s113_25, s113_26, s113_29, s113_30, s113_31, s113_34, s113_35, s113_36, s113_39, s113_40, s113_42, s113_43, s113_44, s113_47, s113_48, s113_49, s113_52, s113_53, s113_54, s113_56, s113_57, s113_60, s113_61, s113_62, s113_65, s113_68, s113_69, s113_70, s113_73, s113_76, s113_77, tw_gf, tw_ia, hM, mco hM, hH.1, hH.2.1, ev, ec, hs, e0, q1, e1, q2, eb, tw_bi_0, q3, m_failed hM]
  · simp [s113_0, s113_1, s113_4, s113_5, s113_6, s113_9, s113_10, s113_13, s113_14, s113_15, s113_16, s113_19, s113_20, s113_21, s113_24, s113_25, s113_26, s113_29, s113_30, s113_31, s113_34, s113_35, s113_36, s113_39, s113_40, s113_42, s113_43, s113_44, s113_47, s113_48, s113_49, s113_52, s113_53, s113_54, s113_56, s113_57, s113_60, s113_61, s113_62, s113_65, s113_68, s113_69, s113_70, s113_73, s113_76, s113_77, tw_gf, tw_ia, hM, mco hM, hH.1, hH.2.1, ev, ec, hs, e0, q1, m_failed hM]
theorem m_noCell0 (hM : h.2.2 27 = some (mC fl tc wc hk lw st hg ra rt rw ns nr tr)) (hH : MH h sz ln sf hd) (hk4 : k < 4) (hs : sz k = -1) (i : Int32) : tw_b 167 0 [.ref 27, .int (nI k), .int i] [] h = some (some (.int 1), h) := by
  have ev := tw_vi_n (show k < 4 by omega) (by decide)
  have ec := nI_clamp (show k < 2 ^ 31 by omega)
  simp [s167_0, s167_1, s167_4, s167_5, s167_6, s167_9, s167_10, s167_13, s167_14, s167_15, s167_16, s167_17, s167_20, s167_21, s167_22, s167_23, s167_24, s167_25, s167_28, s167_31, s167_32, s167_35, s167_36, tw_gf, tw_ia, hM, hH.1, ev, ec, hs]
theorem m_noCell (hM : h.2.2 27 = some (mC fl tc wc hk lw st hg ra rt rw ns nr tr)) (hH : MH h sz ln sf hd) (hk4 : k < 4) (hs : sz k = nI n) (hn : n < 2 ^ 31) (i : Int32) : tw_b 167 0 [.ref 27, .int (nI k), .int i] [] h = some (some (.int (if rchB n i 1 = true then 0 else 3)), h) := by
  have ev := tw_vi_n (show k < 4 by omega) (by decide)
  have ec := nI_clamp (show k < 2 ^ 31 by omega)
  have e0 : ¬ nI n < 0 := nI_pos hn
  have e1 : ((0 : Int64) ≤ i.toInt64) = ¬ i < 0 := l_ge i 0 0 rfl
  have hi := m_in i.toInt64 0 ((nI n).toInt64 - 1) h
  rw [rch_1 hn]
  by_cases q : ¬ i < 0 ∧ i < nI n
  · rw [show decide (0 ≤ i.toInt64 ∧ i.toInt64 ≤ (nI n).toInt64 - 1) = true from by rw [decide_eq_true_iff, e1, l_lt]; exact q] at hi
    rw [decide_eq_true q]
    simp [s167_0, s167_1, s167_4, s167_5, s167_6, s167_9, s167_10, s167_13, s167_14, s167_15, s167_16, s167_17, s167_20, s167_21, s167_22, s167_23, s167_24, s167_25, s167_28, s167_31, s167_32, s167_35, s167_36, tw_gf, tw_ia, hM, hH.1, ev, ec, hs, e0, hi, tw_bi_0]
  · rw [show decide (0 ≤ i.toInt64 ∧ i.toInt64 ≤ (nI n).toInt64 - 1) = false from by rw [decide_eq_false_iff_not, e1, l_lt]; exact q] at hi
    rw [decide_eq_false q]
    simp [s167_0, s167_1, s167_4, s167_5, s167_6, s167_9, s167_10, s167_13, s167_14, s167_15, s167_16, s167_17, s167_20, s167_21, s167_22, s167_23, s167_24, s167_25, s167_28, s167_31, s167_32, s167_35, s167_36, tw_gf, tw_ia, hM, hH.1, ev, ec, hs, e0, hi, tw_bi_0]
theorem m_failedLong (hM : h.2.2 27 = some (mC fl tc wc hk lw st hg ra rt rw ns nr tr)) (c : Int32) : tw_b 169 0 [.ref 27, .int c] [] h = some (some (.long (-9223372036854775808)), tw_set h 27 (mC c tc wc hk lw st hg ra rt rw ns nr tr)) := by
  simp [s169_0, s169_1, s169_2, s169_5, s169_8, s162_0, s162_3, tw_sf, hM, tw_fit]
theorem nI_60 (k i : Nat) : 60 * nI k + nI i = nI (60 * k + i) := by
  rw [← nI_add]
  congr 1
  exact (Int32.ofNat_mul 60 k).symm
/-- zeroes from s on -/
def zrF (sf : Nat → Int32) (b s : Nat) : Nat → Int32 := fun j => if b ≤ j ∧ j < b + s then 0 else sf j
theorem zrF_0 (sf : Nat → Int32) (b : Nat) : zrF sf b 0 = sf := by funext j; unfold zrF; rw [if_neg (by omega)]
theorem zrF_s (sf : Nat → Int32) (b s : Nat) : upd (zrF sf b s) (b + s) 0 = zrF sf b (s + 1) := by
  funext j
  unfold upd zrF
  by_cases q : j = b + s
  · rw [if_pos q, if_pos (by omega)]
  · rw [if_neg q]
    by_cases q2 : b ≤ j ∧ j < b + s
    · rw [if_pos q2, if_pos (by omega)]
    · rw [if_neg q2, if_neg (by omega)]
theorem m_zero_loop (hM : h.2.2 27 = some (mC fl tc wc hk lw st hg ra rt rw ns nr tr)) (hk4 : k < 4) (hn : n ≤ 60) (lane : Int32) : ∀ (d s : Nat), s + d = n → tw_b 164 65 [.ref 27, .int (nI k), .int lane, .int (nI n), .int (nI s)] [] (tw_set h 42 (iC 240 (zrF sf (60 * k) s))) = some (some (.int 1), tw_set (tw_set h 42 (iC 240 (zrF sf (60 * k) n))) 27 (mC 0 tc wc hk lw st hg ra rt rw ns nr tr)) := by
  intro d
  induction d with
  | zero =>
    intro s hd
    have e : ¬ nI s < nI n := nI_nlt (by omega) (by omega)
    have hs : s = n := by omega
    have gM : (tw_set h 42 (iC 240 (zrF sf (60 * k) s))).2.2 27 = some (mC fl tc wc hk lw st hg ra rt rw ns nr tr) := by rw [tw_sg, if_neg (by decide)]; exact hM
    have hrf := m_refused gM 1
    rw [s164_65]
    simp [s164_0, s164_1, s164_4, s164_7, s164_8, s164_9, s164_12, s164_13, s164_14, s164_15, s164_16, s164_19, s164_22, s164_25, s164_26, s164_28, s164_31, s164_32, s164_34, s164_37, s164_38, s164_39, s164_42, s164_43, s164_44, s164_47, s164_48, s164_49, s164_52, s164_53, s164_54, s164_55, s164_56, s164_59, s164_60, s164_61, s164_62, s164_63, s164_67, s164_68, s164_71, s164_72, s164_75, s164_77, s164_78, s164_79, s164_81, s164_82, s164_83, s164_84, s164_87, s164_90, s164_91, s164_92, s164_95, e, mco gM, hrf]
    rw [hs]
  | succ d ih =>
    intro s hd
    have e : nI s < nI n := nI_lt (by omega) (by omega)
    have ev := tw_vi_n (show 60 * k + s < 240 by omega) (by decide)
    have ec := nI_clamp (show 60 * k + s < 2 ^ 31 by omega)
    rw [← ih (s + 1) (by omega), s164_65]
    simp [s164_0, s164_1, s164_4, s164_7, s164_8, s164_9, s164_12, s164_13, s164_14, s164_15, s164_16, s164_19, s164_22, s164_25, s164_26, s164_28, s164_31, s164_32, s164_34, s164_37, s164_38, s164_39, s164_42, s164_43, s164_44, s164_47, s164_48, s164_49, s164_52, s164_53, s164_54, s164_55, s164_56, s164_59, s164_60, s164_61, s164_62, s164_63, s164_67, s164_68, s164_71, s164_72, s164_75, s164_77, s164_78, s164_79, s164_81, s164_82, s164_83, s164_84, s164_87, s164_90, s164_91, s164_92, s164_95, tw_gf, tw_ix, tw_sg, hM, e, nI_60, ev, ec, zrF_s, tw_ss, nI_1]
theorem m_hand_loop (hM : h.2.2 27 = some (mC fl tc wc hk lw st hg ra rt rw ns nr tr)) (h42 : h.2.2 42 = some (iC 240 sf)) {i o j : Nat} (hi : 60 * k + i + n ≤ 240) (hn : n ≤ 60) : ∀ (d s : Nat), s + d = n → tw_b 170 107 [.ref 27, .int (nI k), .int (nI i), .int (nI o), .int (nI j), .int (nI n), .int (nI s)] [] (tw_set h 43 (iC 60 (fset hd (fun x => sf (60 * k + i + x)) s))) = tw_b 170 141 [.ref 27, .int (nI k), .int (nI i), .int (nI o), .int (nI j), .int (nI n), .int (nI n)] [] (tw_set h 43 (iC 60 (fset hd (fun x => sf (60 * k + i + x)) n))) := by
  intro d
  induction d with
  | zero =>
    intro s hd'
    have e : ¬ nI s < nI n := nI_nlt (by omega) (by omega)
    have hs : s = n := by omega
    subst hs
    rw [s170_107]
    simp [s170_0, s170_1, s170_4, s170_7, s170_8, s170_11, s170_14, s170_15, s170_16, s170_19, s170_20, s170_21, s170_24, s170_25, s170_26, s170_29, s170_30, s170_33, s170_34, s170_35, s170_38, s170_39, s170_40, s170_43, s170_44, s170_45, s170_48, s170_49, s170_50, s170_51, s170_54, s170_55, s170_56, s170_59, s170_60, s170_61, s170_64, s170_65, s170_66, s170_68, s170_69, s170_70, s170_73, s170_74, s170_75, s170_78, s170_81, s170_83, s170_85, s170_86, s170_87, s170_90, s170_91, s170_92, s170_95, s170_98, s170_99, s170_100, s170_103, s170_104, s170_105, s170_109, s170_111, s170_114, s170_115, s170_118, s170_120, s170_121, s170_124, s170_126, s170_127, s170_128, s170_129, s170_130, s170_132, s170_133, s170_134, s170_135, s170_138, s170_142, s170_144, s170_146, s170_148, s170_151, s170_152, s170_155, s170_157, s170_158, s170_159, s170_161, s170_162, s170_164, s170_165, s170_166, s170_169, s170_171, s170_172, s170_173, s170_176, s170_179, s170_180, s170_182, s170_185, Int32.lt_irrefl]
  | succ d ih =>
    intro s hd'
    have e : nI s < nI n := nI_lt (by omega) (by omega)
    have ev := tw_vi_n (show 60 * k + i + s < 240 by omega) (by decide)
    have ec := nI_clamp (show 60 * k + i + s < 2 ^ 31 by omega)
    have ev2 := tw_vi_n (show s < 60 by omega) (by decide)
    have ec2 := nI_clamp (show s < 2 ^ 31 by omega)
    have ef := fset_s hd (fun x => sf (60 * k + i + x)) s
    rw [← ih (s + 1) (by omega), s170_107]
    simp [s170_0, s170_1, s170_4, s170_7, s170_8, s170_11, s170_14, s170_15, s170_16, s170_19, s170_20, s170_21, s170_24, s170_25, s170_26, s170_29, s170_30, s170_33, s170_34, s170_35, s170_38, s170_39, s170_40, s170_43, s170_44, s170_45, s170_48, s170_49, s170_50, s170_51, s170_54, s170_55, s170_56, s170_59, s170_60, s170_61, s170_64, s170_65, s170_66, s170_68, s170_69, s170_70, s170_73, s170_74, s170_75, s170_78, s170_81, s170_83, s170_85, s170_86, s170_87, s170_90, s170_91, s170_92, s170_95, s170_98, s170_99, s170_100, s170_103, s170_104, s170_105, s170_109, s170_111, s170_114, s170_115, s170_118, s170_120, s170_121, s170_124, s170_126, s170_127, s170_128, s170_129, s170_130, s170_132, s170_133, s170_134, s170_135, s170_138, s170_142, s170_144, s170_146, s170_148, s170_151, s170_152, s170_155, s170_157, s170_158, s170_159, s170_161, s170_162, s170_164, s170_165, s170_166, s170_169, s170_171, s170_172, s170_173, s170_176, s170_179, s170_180, s170_182, s170_185, tw_gf, tw_ia, tw_ix, tw_sg, hM, h42, e, nI_60, nI_add, ev, ec, ev2, ec2, ef, tw_ss, nI_1]
theorem cpy_s (hd sf : Nat → Int32) (b s : Nat) : upd (va_cpy hd sf 0 b s) (b + s) (hd s) = va_cpy hd sf 0 b (s + 1) := by
  funext j
  unfold upd va_cpy
  by_cases q : j = b + s
  · rw [if_pos q, if_pos (by omega), show 0 + (j - b) = s by omega]
  · rw [if_neg q]
    by_cases q2 : b ≤ j ∧ j < b + s
    · rw [if_pos q2, if_pos (by omega)]
    · rw [if_neg q2, if_neg (by omega)]
theorem cpy_0 (hd sf : Nat → Int32) (b : Nat) : va_cpy hd sf 0 b 0 = sf := by funext j; unfold va_cpy; rw [if_neg (by omega)]
theorem m_back_loop (hM : h.2.2 27 = some (mC fl tc wc hk lw st hg ra rt rw ns nr tr)) (h43 : h.2.2 43 = some (iC 60 hd)) {i o j : Nat} (hj : 60 * o + j + n ≤ 240) (hn : n ≤ 60) : ∀ (d s : Nat), s + d = n → tw_b 170 144 [.ref 27, .int (nI k), .int (nI i), .int (nI o), .int (nI j), .int (nI n), .int (nI s)] [] (tw_set h 42 (iC 240 (va_cpy hd sf 0 (60 * o + j) s))) = some (some (.int (nI n)), tw_set (tw_set h 42 (iC 240 (va_cpy hd sf 0 (60 * o + j) n))) 27 (mC 0 tc wc hk lw st hg ra rt rw ns nr tr)) := by
  intro d
  induction d with
  | zero =>
    intro s hd'
    have hs : s = n := by omega
    subst hs
    have gM : (tw_set h 42 (iC 240 (va_cpy hd sf 0 (60 * o + j) s))).2.2 27 = some (mC fl tc wc hk lw st hg ra rt rw ns nr tr) := by rw [tw_sg, if_neg (by decide)]; exact hM
    have hrf := m_refused gM (nI s)
    rw [s170_144]
    simp [s170_0, s170_1, s170_4, s170_7, s170_8, s170_11, s170_14, s170_15, s170_16, s170_19, s170_20, s170_21, s170_24, s170_25, s170_26, s170_29, s170_30, s170_33, s170_34, s170_35, s170_38, s170_39, s170_40, s170_43, s170_44, s170_45, s170_48, s170_49, s170_50, s170_51, s170_54, s170_55, s170_56, s170_59, s170_60, s170_61, s170_64, s170_65, s170_66, s170_68, s170_69, s170_70, s170_73, s170_74, s170_75, s170_78, s170_81, s170_83, s170_85, s170_86, s170_87, s170_90, s170_91, s170_92, s170_95, s170_98, s170_99, s170_100, s170_103, s170_104, s170_105, s170_107, s170_109, s170_111, s170_114, s170_115, s170_118, s170_120, s170_121, s170_124, s170_126, s170_127, s170_128, s170_129, s170_130, s170_132, s170_133, s170_134, s170_135, s170_138, s170_141, s170_142, s170_146, s170_148, s170_151, s170_152, s170_155, s170_157, s170_158, s170_159, s170_161, s170_162, s170_164, s170_165, s170_166, s170_169, s170_171, s170_172, s170_173, s170_176, s170_179, s170_180, s170_182, s170_185, Int32.lt_irrefl, mco gM, hrf]
  | succ d ih =>
    intro s hd'
    have e : nI s < nI n := nI_lt (by omega) (by omega)
    have ev := tw_vi_n (show 60 * o + j + s < 240 by omega) (by decide)
    have ec := nI_clamp (show 60 * o + j + s < 2 ^ 31 by omega)
    have ev2 := tw_vi_n (show s < 60 by omega) (by decide)
    have ec2 := nI_clamp (show s < 2 ^ 31 by omega)
    have ef := cpy_s hd sf (60 * o + j) s
    rw [← ih (s + 1) (by omega), s170_144]
    simp [s170_0, s170_1, s170_4, s170_7, s170_8, s170_11, s170_14, s170_15, s170_16, s170_19, s170_20, s170_21, s170_24, s170_25, s170_26, s170_29, s170_30, s170_33, s170_34, s170_35, s170_38, s170_39, s170_40, s170_43, s170_44, s170_45, s170_48, s170_49, s170_50, s170_51, s170_54, s170_55, s170_56, s170_59, s170_60, s170_61, s170_64, s170_65, s170_66, s170_68, s170_69, s170_70, s170_73, s170_74, s170_75, s170_78, s170_81, s170_83, s170_85, s170_86, s170_87, s170_90, s170_91, s170_92, s170_95, s170_98, s170_99, s170_100, s170_103, s170_104, s170_105, s170_107, s170_109, s170_111, s170_114, s170_115, s170_118, s170_120, s170_121, s170_124, s170_126, s170_127, s170_128, s170_129, s170_130, s170_132, s170_133, s170_134, s170_135, s170_138, s170_141, s170_142, s170_146, s170_148, s170_151, s170_152, s170_155, s170_157, s170_158, s170_159, s170_161, s170_162, s170_164, s170_165, s170_166, s170_169, s170_171, s170_172, s170_173, s170_176, s170_179, s170_180, s170_182, s170_185, tw_gf, tw_ia, tw_ix, tw_sg, hM, h43, e, nI_60, nI_add, ev, ec, ev2, ec2, ef, tw_ss, nI_1]
end P2
