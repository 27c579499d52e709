/-! how the model reads a town -/
def mt (h : tw_H) (m : tw_C) (A B C : Nat → Int32) : tw_H := tw_set (tw_set (tw_set (tw_set h 31 (iC 6 A)) 32 (iC 8 B)) 33 (iC 8 C)) 27 m
section T4
variable {h : tw_H} {fl tc wc hk lw st hg ra rt rw ns nr tr : Int32} {p b i n : Nat} {A B C sf : Nat → Int32} {m m' : tw_C}
theorem mt_27 : (mt h m A B C).2.2 27 = some m := by simp [mt, tw_sg]
theorem mt_31 : (mt h m A B C).2.2 31 = some (iC 6 A) := by simp [mt, tw_sg]
theorem mt_32 : (mt h m A B C).2.2 32 = some (iC 8 B) := by simp [mt, tw_sg]
theorem mt_33 : (mt h m A B C).2.2 33 = some (iC 8 C) := by simp [mt, tw_sg]
theorem mt_o {j : Nat} (hj : j ≠ 27 ∧ j ≠ 31 ∧ j ≠ 32 ∧ j ≠ 33) : (mt h m A B C).2.2 j = h.2.2 j := by
  simp [mt, tw_sg, hj.1, hj.2.1, hj.2.2.1, hj.2.2.2]
theorem mt_s27 : tw_set (mt h m A B C) 27 m' = mt h m' A B C := by
  unfold mt; rw [tw_ss]
theorem mt_s31 {A' : Nat → Int32} : tw_set (mt h m A B C) 31 (iC 6 A') = mt h m A' B C := by
  unfold mt
  rw [tw_sc _ _ _ (show (27 : Nat) ≠ 31 by decide), tw_sc _ _ _ (show (33 : Nat) ≠ 31 by decide), tw_sc _ _ _ (show (32 : Nat) ≠ 31 by decide), tw_ss]
theorem mt_s32 {B' : Nat → Int32} : tw_set (mt h m A B C) 32 (iC 8 B') = mt h m A B' C := by
  unfold mt
  rw [tw_sc _ _ _ (show (27 : Nat) ≠ 32 by decide), tw_sc _ _ _ (show (33 : Nat) ≠ 32 by decide), tw_ss]
theorem mt_s33 {C' : Nat → Int32} : tw_set (mt h m A B C) 33 (iC 8 C') = mt h m A B C' := by
  unfold mt
  rw [tw_sc _ _ _ (show (27 : Nat) ≠ 33 by decide), tw_ss]
theorem mt_co {fl' tc' wc' hk' lw' st' hg' ra' rt' rw' ns' nr' tr' : Int32} : tw_co (mt h (mC fl' tc' wc' hk' lw' st' hg' ra' rt' rw' ns' nr' tr') A B C) 27 = some 11 := mco mt_27
theorem m_codeAt (hs : h.2.2 42 = some (iC 240 sf)) (hb : b + n ≤ 240) (hp : p ≤ n) : tw_b 117 0 [.ref 27, .int (nI b), .int (nI n)] [] (mt h (mC fl tc wc hk lw st hg (nI p) rt rw ns nr tr) A B C) = some (some (.int (cdK sf b n p)), mt h (mC fl tc wc hk lw st hg (nI p) rt rw ns nr tr) A B C) := by
  have gs : (mt h (mC fl tc wc hk lw st hg (nI p) rt rw ns nr tr) A B C).2.2 42 = some (iC 240 sf) := by rw [mt_o (by decide)]; exact hs
  unfold cdK
  by_cases q : p < n
  · have e1 : nI p < nI n := nI_lt q (by omega)
    have ev := tw_vi_n (show b + p < 240 by omega) (by decide)
    have ec := nI_clamp (show b + p < 2 ^ 31 by omega)
    simp [s117_0, s117_1, s117_4, s117_5, s117_8, s117_9, s117_12, s117_13, s117_14, s117_17, s117_18, s117_19, s117_22, s117_24, tw_gf, tw_ia, mt_27, gs, e1, q, nI_add, ev, ec]
  · have e1 : ¬ nI p < nI n := nI_nlt (by omega) (by omega)
    simp [s117_0, s117_1, s117_4, s117_5, s117_8, s117_9, s117_12, s117_13, s117_14, s117_17, s117_18, s117_19, s117_22, s117_24, tw_gf, mt_27, e1, q]
theorem fig_in {x : Int32} {lo hi : Nat} (h9 : hi ≤ 9) (hl : lo ≤ hi) : match dgL x (hi + 1 - lo) lo with
    | some v => x - 48 = nI v ∧ ((nI lo).toInt64 ≤ (x - 48).toInt64 ∧ (x - 48).toInt64 ≤ (nI hi).toInt64)
    | none => ¬ ((nI lo).toInt64 ≤ (x - 48).toInt64 ∧ (x - 48).toInt64 ≤ (nI hi).toInt64) := by
  cases e : dgL x (hi + 1 - lo) lo with
  | some v =>
    obtain ⟨h1, h2, h3⟩ := dgL_in _ _ _ e
    have e1 : x - 48 = nI v := by
      rw [h3, ← nI_add, show nI 48 = 48 from rfl, Int32.add_comm]
      exact Int32.add_sub_cancel _ _
    refine ⟨e1, ?_⟩
    rw [e1, nI_l (by omega), nI_l (by omega), nI_l (by omega), lN_le (by omega) (by omega), lN_le (by omega) (by omega)]
    omega
  | none =>
    have hn := dgL_no _ _ e
    rintro ⟨h1, h2⟩
    rw [l_le (x - 48) _ (nI hi) rfl] at h2
    rw [l_ge (x - 48) _ (nI lo) rfl] at h1
    have h0 : ¬ x - 48 < 0 := by
      have a1 := nI_toInt (show lo < 2 ^ 31 by omega)
      rw [Int32.lt_iff_toInt_lt] at h1 ⊢
      have z : (0 : Int32).toInt = 0 := rfl
      omega
    obtain ⟨v, hv, e1⟩ := nI_of h0
    rw [e1] at h1 h2
    have h1' : lo ≤ v := by
      by_cases z : v < lo
      · exact absurd (nI_lt z (by omega)) h1
      · omega
    have h2' : v ≤ hi := by
      by_cases z : hi < v
      · exact absurd (nI_lt z hv) h2
      · omega
    refine hn v h1' (by omega) ?_
    rw [← nI_add, ← e1, show nI 48 = 48 from rfl, Int32.add_comm]
    exact (Int32.sub_add_cancel _ _).symm
theorem m_figure (hs : h.2.2 42 = some (iC 240 sf)) (hb : b + n ≤ 240) (hp : p ≤ n) {lo hi : Nat} (h9 : hi ≤ 9) (hl : lo ≤ hi) : tw_b 119 0 [.ref 27, .int (nI b), .int (nI n), .int (nI lo), .int (nI hi), tw_un, tw_un] [] (mt h (mC fl tc wc hk lw st hg (nI p) rt rw ns nr tr) A B C) = match dgL (cdK sf b n p) (hi + 1 - lo) lo with
    | some v => some (some (.int (nI v)), mt h (mC fl tc wc hk lw st hg (nI (p + 1)) rt rw ns nr tr) A B C)
    | none => some (some (.int (-9)), mt h (mC fl tc wc hk lw st hg (nI p) rt rw ns nr tr) A B C) := by
  have ec := m_codeAt (fl := fl) (tc := tc) (wc := wc) (hk := hk) (lw := lw) (st := st) (hg := hg) (rt := rt) (rw := rw) (ns := ns) (nr := nr) (tr := tr) (A := A) (B := B) (C := C) hs hb hp
  have hf := fig_in (x := cdK sf b n p) h9 hl
  have hi' := m_in (cdK sf b n p - 48).toInt64 (nI lo).toInt64 (nI hi).toInt64 (mt h (mC fl tc wc hk lw st hg (nI p) rt rw ns nr tr) A B C)
  cases e : dgL (cdK sf b n p) (hi + 1 - lo) lo with
  | some v =>
    rw [e] at hf
    simp only at hf ⊢
    rw [decide_eq_true hf.2, tw_bi_t] at hi'
    simp [s119_0, s119_1, s119_2, s119_3, s119_6, s119_8, s119_9, s119_11, s119_13, s119_14, s119_15, s119_16, s119_18, s119_19, s119_22, s119_24, s119_25, s119_26, s119_29, s119_31, s119_34, s119_35, s119_38, s119_39, s119_40, s119_43, s119_45, s119_48, s119_50, s119_53, s119_55, mt_co, ec, hi', tw_gf, tw_sf, mt_27, tw_fit, nI_1, mt_s27]
    rw [hf.1]
  | none =>
    rw [e] at hf
    simp only at hf ⊢
    rw [decide_eq_false hf, tw_bi_f] at hi'
    simp [s119_0, s119_1, s119_2, s119_3, s119_6, s119_8, s119_9, s119_11, s119_13, s119_14, s119_15, s119_16, s119_18, s119_19, s119_22, s119_24, s119_25, s119_26, s119_29, s119_31, s119_34, s119_35, s119_38, s119_39, s119_40, s119_43, s119_45, s119_48, s119_50, s119_53, s119_55, mt_co, ec, hi', tw_gf, tw_sf, mt_27, tw_fit, mt_s27]
theorem m_readsTide (hs : h.2.2 42 = some (iC 240 sf)) (hb : b + n ≤ 240) (hp : p ≤ n) {t : Nat} (ht : t < 6) : match unT (cdK sf b n) p with
    | (some v, q) => tw_b 118 0 [.ref 27, .int (nI b), .int (nI n), tw_un, tw_un] [] (mt h (mC fl tc wc hk lw st hg (nI p) (nI t) rw ns nr tr) A B C) = some (some (.int 1), mt h (mC fl tc wc hk lw st hg (nI q) (nI (t + 1)) rw ns nr tr) (upd A t v) B C)
    | (none, q) => tw_b 118 0 [.ref 27, .int (nI b), .int (nI n), tw_un, tw_un] [] (mt h (mC fl tc wc hk lw st hg (nI p) (nI t) rw ns nr tr) A B C) = some (some (.int 0), mt h (mC fl tc wc hk lw st hg (nI q) (nI t) rw ns nr tr) A B C) := by
  have ec := m_codeAt (fl := fl) (tc := tc) (wc := wc) (hk := hk) (lw := lw) (st := st) (hg := hg) (rt := nI t) (rw := rw) (ns := ns) (nr := nr) (tr := tr) (A := A) (B := B) (C := C) hs hb hp
  have t6 : ¬ nI t = 6 := fun z => by
    have := (nI_eq (a := t) (b := 6) (by omega) (by omega)).mp z
    omega
  have ev := tw_vi_n (show t < 6 by omega) (by decide)
  have ecl := nI_clamp (show t < 2 ^ 31 by omega)
  unfold unT
  by_cases q : cdK sf b n p = 44
  · have hp1 := cdK_lt q (by decide)
    rw [if_pos q]
    have ed := m_figure (h := h) (fl := fl) (tc := tc) (wc := wc) (hk := hk) (lw := lw) (st := st) (hg := hg) (rt := nI t) (rw := rw) (ns := ns) (nr := nr) (tr := tr) (A := A) (B := B) (C := C) hs hb (show p + 1 ≤ n by omega) (lo := 0) (hi := 5) (by decide) (by decide)
    rw [nI_0, show nI 5 = 5 from rfl] at ed
    cases e2 : dgL (cdK sf b n (p + 1)) 6 0 with
    | none =>
      rw [e2] at ed
      simp only at ed ⊢
      simp [s118_0, s118_1, s118_4, s118_6, s118_9, s118_10, s118_11, s118_12, s118_15, s118_17, s118_20, s118_21, s118_22, s118_23, s118_24, s118_27, s118_28, s118_29, s118_32, s118_33, s118_34, s118_35, s118_36, s118_37, s118_40, s118_41, s118_42, s118_45, s118_47, s118_50, s118_51, s118_52, s118_53, s118_54, s118_56, s118_59, s118_61, s118_63, s118_66, s118_67, s118_68, s118_69, s118_72, s118_73, s118_76, s118_78, s118_79, s118_80, s118_82, s118_83, s118_84, s118_85, s118_86, s118_89, s118_90, s118_91, s118_94, s118_95, mt_co, ec, tw_gf, tw_sf, mt_27, tw_fit, t6, q, nI_1, mt_s27, ed, tw_z_0]
    | some a =>
      rw [e2] at ed
      simp only at ed ⊢
      have hp2 := cdK_lt rfl (dig_ne e2 (by decide))
      have ha := dgL_in _ _ _ e2
      have a0 : ¬ nI a < 0 := nI_pos (by omega)
      have ed2 := m_figure (h := h) (fl := fl) (tc := tc) (wc := wc) (hk := hk) (lw := lw) (st := st) (hg := hg) (rt := nI t) (rw := rw) (ns := ns) (nr := nr) (tr := tr) (A := A) (B := B) (C := C) hs hb (show p + 2 ≤ n by omega) (lo := 0) (hi := 9) (by decide) (by decide)
      rw [nI_0, show nI 9 = 9 from rfl] at ed2
      cases e3 : dgL (cdK sf b n (p + 2)) 10 0 with
      | none =>
        rw [e3] at ed2
        simp only at ed2 ⊢
        simp [s118_0, s118_1, s118_4, s118_6, s118_9, s118_10, s118_11, s118_12, s118_15, s118_17, s118_20, s118_21, s118_22, s118_23, s118_24, s118_27, s118_28, s118_29, s118_32, s118_33, s118_34, s118_35, s118_36, s118_37, s118_40, s118_41, s118_42, s118_45, s118_47, s118_50, s118_51, s118_52, s118_53, s118_54, s118_56, s118_59, s118_61, s118_63, s118_66, s118_67, s118_68, s118_69, s118_72, s118_73, s118_76, s118_78, s118_79, s118_80, s118_82, s118_83, s118_84, s118_85, s118_86, s118_89, s118_90, s118_91, s118_94, s118_95, mt_co, ec, tw_gf, tw_sf, mt_27, tw_fit, t6, q, nI_1, mt_s27, ed, ed2, a0, tw_z_0]
      | some b2 =>
        rw [e3] at ed2
        simp only at ed2 ⊢
        have hb2 := dgL_in _ _ _ e3
        have b0 : ¬ nI b2 < 0 := nI_pos (by omega)
        simp [s118_0, s118_1, s118_4, s118_6, s118_9, s118_10, s118_11, s118_12, s118_15, s118_17, s118_20, s118_21, s118_22, s118_23, s118_24, s118_27, s118_28, s118_29, s118_32, s118_33, s118_34, s118_35, s118_36, s118_37, s118_40, s118_41, s118_42, s118_45, s118_47, s118_50, s118_51, s118_52, s118_53, s118_54, s118_56, s118_59, s118_61, s118_63, s118_66, s118_67, s118_68, s118_69, s118_72, s118_73, s118_76, s118_78, s118_79, s118_80, s118_82, s118_83, s118_84, s118_85, s118_86, s118_89, s118_90, s118_91, s118_94, s118_95, mt_co, ec, tw_gf, tw_sf, tw_ix, mt_27, mt_31, tw_fit, t6, q, nI_1, mt_s27, mt_s31, ed, ed2, a0, b0, ev, ecl, tw_z_1]
  · rw [if_neg q]
    simp only
    simp [s118_0, s118_1, s118_4, s118_6, s118_9, s118_10, s118_11, s118_12, s118_15, s118_17, s118_20, s118_21, s118_22, s118_23, s118_24, s118_27, s118_28, s118_29, s118_32, s118_33, s118_34, s118_35, s118_36, s118_37, s118_40, s118_41, s118_42, s118_45, s118_47, s118_50, s118_51, s118_52, s118_53, s118_54, s118_56, s118_59, s118_61, s118_63, s118_66, s118_67, s118_68, s118_69, s118_72, s118_73, s118_76, s118_78, s118_79, s118_80, s118_82, s118_83, s118_84, s118_85, s118_86, s118_89, s118_90, s118_91, s118_94, s118_95, mt_co, ec, tw_gf, mt_27, t6, q, tw_z_0]
theorem m_readsWork (hs : h.2.2 42 = some (iC 240 sf)) (hb : b + n ≤ 240) (hp : p ≤ n) {w : Nat} (hw : w < 8) : match unW (cdK sf b n) p with
    | (some v, q) => tw_b 120 0 [.ref 27, .int (nI b), .int (nI n), tw_un, tw_un] [] (mt h (mC fl tc wc hk lw st hg (nI p) rt (nI w) ns nr tr) A B C) = some (some (.int 1), mt h (mC fl tc wc hk lw st hg (nI q) rt (nI (w + 1)) ns nr tr) A (upd B w v.1) (upd C w v.2))
    | (none, q) => tw_b 120 0 [.ref 27, .int (nI b), .int (nI n), tw_un, tw_un] [] (mt h (mC fl tc wc hk lw st hg (nI p) rt (nI w) ns nr tr) A B C) = some (some (.int 0), mt h (mC fl tc wc hk lw st hg (nI q) rt (nI w) ns nr tr) A B C) := by
  have ec := m_codeAt (fl := fl) (tc := tc) (wc := wc) (hk := hk) (lw := lw) (st := st) (hg := hg) (rt := rt) (rw := nI w) (ns := ns) (nr := nr) (tr := tr) (A := A) (B := B) (C := C) hs hb hp
  have t6 : ¬ nI w = 8 := fun z => by
    have := (nI_eq (a := w) (b := 8) (by omega) (by omega)).mp z
    omega
  have ev := tw_vi_n (show w < 8 by omega) (by decide)
  have ecl := nI_clamp (show w < 2 ^ 31 by omega)
  unfold unW
  by_cases q : cdK sf b n p = 59
  · have hp1 := cdK_lt q (by decide)
    rw [if_pos q]
    have ec1 := m_codeAt (h := h) (fl := fl) (tc := tc) (wc := wc) (hk := hk) (lw := lw) (st := st) (hg := hg) (rt := rt) (rw := nI w) (ns := ns) (nr := nr) (tr := tr) (A := A) (B := B) (C := C) hs hb (show p + 1 ≤ n by omega)
    unfold kdL
    have fig : ∀ (hp2 : p + 1 < n), _ := fun hp2 => m_figure (h := h) (fl := fl) (tc := tc) (wc := wc) (hk := hk) (lw := lw) (st := st) (hg := hg) (rt := rt) (rw := nI w) (ns := ns) (nr := nr) (tr := tr) (A := A) (B := B) (C := C) hs hb (show p + 2 ≤ n by omega) (lo := 1) (hi := 9) (by decide) (by decide)
    rw [show nI 1 = 1 from rfl, show nI 9 = 9 from rfl, show 9 + 1 - 1 = 9 from rfl] at fig
    by_cases k1 : cdK sf b n (p + 1) = 119
    · have ed := fig (cdK_lt k1 (by decide))
      rw [if_pos k1]
      simp only
      cases e3 : dgL (cdK sf b n (p + 2)) 9 1 with
      | none =>
        rw [e3] at ed
        simp only at ed ⊢
        simp [s120_0, s120_1, s120_4, s120_6, s120_9, s120_10, s120_11, s120_12, s120_15, s120_17, s120_20, s120_21, s120_22, s120_23, s120_24, s120_27, s120_28, s120_29, s120_32, s120_33, s120_34, s120_35, s120_38, s120_39, s120_40, s120_42, s120_45, s120_46, s120_48, s120_51, s120_52, s120_54, s120_57, s120_58, s120_59, s120_60, s120_61, s120_64, s120_65, s120_66, s120_69, s120_70, s120_71, s120_72, s120_73, s120_75, s120_78, s120_80, s120_82, s120_85, s120_86, s120_87, s120_88, s120_91, s120_92, s120_95, s120_96, s120_98, s120_101, s120_102, s120_105, s120_106, s120_108, s120_111, s120_112, s120_115, s120_116, s120_117, s120_118, s120_121, s120_122, s120_125, s120_127, s120_128, s120_129, s120_130, s120_133, s120_134, s120_135, s120_138, s120_139, mt_co, ec, ec1, tw_gf, tw_sf, mt_27, tw_fit, t6, q, k1, nI_1, mt_s27, ed, tw_z_0]
      | some b2 =>
        rw [e3] at ed
        simp only at ed ⊢
        have hb2 := dgL_in _ _ _ e3
        have b0 : ¬ nI b2 < 0 := nI_pos (by omega)
        simp [s120_0, s120_1, s120_4, s120_6, s120_9, s120_10, s120_11, s120_12, s120_15, s120_17, s120_20, s120_21, s120_22, s120_23, s120_24, s120_27, s120_28, s120_29, s120_32, s120_33, s120_34, s120_35, s120_38, s120_39, s120_40, s120_42, s120_45, s120_46, s120_48, s120_51, s120_52, s120_54, s120_57, s120_58, s120_59, s120_60, s120_61, s120_64, s120_65, s120_66, s120_69, s120_70, s120_71, s120_72, s120_73, s120_75, s120_78, s120_80, s120_82, s120_85, s120_86, s120_87, s120_88, s120_91, s120_92, s120_95, s120_96, s120_98, s120_101, s120_102, s120_105, s120_106, s120_108, s120_111, s120_112, s120_115, s120_116, s120_117, s120_118, s120_121, s120_122, s120_125, s120_127, s120_128, s120_129, s120_130, s120_133, s120_134, s120_135, s120_138, s120_139, mt_co, ec, ec1, tw_gf, tw_sf, tw_ix, mt_27, mt_32, mt_33, tw_fit, t6, q, k1, nI_1, mt_s27, mt_s32, mt_s33, ed, b0, ev, ecl, tw_z_1]
    · by_cases k2 : cdK sf b n (p + 1) = 98
      · have ed := fig (cdK_lt k2 (by decide))
        rw [if_neg k1, if_pos k2]
        simp only
        cases e3 : dgL (cdK sf b n (p + 2)) 9 1 with
        | none =>
          rw [e3] at ed
          simp only at ed ⊢
          simp [s120_0, s120_1, s120_4, s120_6, s120_9, s120_10, s120_11, s120_12, s120_15, s120_17, s120_20, s120_21, s120_22, s120_23, s120_24, s120_27, s120_28, s120_29, s120_32, s120_33, s120_34, s120_35, s120_38, s120_39, s120_40, s120_42, s120_45, s120_46, s120_48, s120_51, s120_52, s120_54, s120_57, s120_58, s120_59, s120_60, s120_61, s120_64, s120_65, s120_66, s120_69, s120_70, s120_71, s120_72, s120_73, s120_75, s120_78, s120_80, s120_82, s120_85, s120_86, s120_87, s120_88, s120_91, s120_92, s120_95, s120_96, s120_98, s120_101, s120_102, s120_105, s120_106, s120_108, s120_111, s120_112, s120_115, s120_116, s120_117, s120_118, s120_121, s120_122, s120_125, s120_127, s120_128, s120_129, s120_130, s120_133, s120_134, s120_135, s120_138, s120_139, mt_co, ec, ec1, tw_gf, tw_sf, mt_27, tw_fit, t6, q, k2, nI_1, mt_s27, ed, tw_z_0]
        | some b2 =>
          rw [e3] at ed
          simp only at ed ⊢
          have hb2 := dgL_in _ _ _ e3
          have b0 : ¬ nI b2 < 0 := nI_pos (by omega)
          simp [s120_0, s120_1, s120_4, s120_6, s120_9, s120_10, s120_11, s120_12, s120_15, s120_17, s120_20, s120_21, s120_22, s120_23, s120_24, s120_27, s120_28, s120_29, s120_32, s120_33, s120_34, s120_35, s120_38, s120_39, s120_40, s120_42, s120_45, s120_46, s120_48, s120_51, s120_52, s120_54, s120_57, s120_58, s120_59, s120_60, s120_61, s120_64, s120_65, s120_66, s120_69, s120_70, s120_71, s120_72, s120_73, s120_75, s120_78, s120_80, s120_82, s120_85, s120_86, s120_87, s120_88, s120_91, s120_92, s120_95, s120_96, s120_98, s120_101, s120_102, s120_105, s120_106, s120_108, s120_111, s120_112, s120_115, s120_116, s120_117, s120_118, s120_121, s120_122, s120_125, s120_127, s120_128, s120_129, s120_130, s120_133, s120_134, s120_135, s120_138, s120_139, mt_co, ec, ec1, tw_gf, tw_sf, tw_ix, mt_27, mt_32, mt_33, tw_fit, t6, q, k2, nI_1, mt_s27, mt_s32, mt_s33, ed, b0, ev, ecl, tw_z_1]
      · by_cases k3 : cdK sf b n (p + 1) = 115
        · have ed := fig (cdK_lt k3 (by decide))
          rw [if_neg k1, if_neg k2, if_pos k3]
          simp only
          cases e3 : dgL (cdK sf b n (p + 2)) 9 1 with
          | none =>
            rw [e3] at ed
            simp only at ed ⊢
            simp [s120_0, s120_1, s120_4, s120_6, s120_9, s120_10, s120_11, s120_12, s120_15, s120_17, s120_20, s120_21, s120_22, s120_23, s120_24, s120_27, s120_28, s120_29, s120_32, s120_33, s120_34, s120_35, s120_38, s120_39, s120_40, s120_42, s120_45, s120_46, s120_48, s120_51, s120_52, s120_54, s120_57, s120_58, s120_59, s120_60, s120_61, s120_64, s120_65, s120_66, s120_69, s120_70, s120_71, s120_72, s120_73, s120_75, s120_78, s120_80, s120_82, s120_85, s120_86, s120_87, s120_88, s120_91, s120_92, s120_95, s120_96, s120_98, s120_101, s120_102, s120_105, s120_106, s120_108, s120_111, s120_112, s120_115, s120_116, s120_117, s120_118, s120_121, s120_122, s120_125, s120_127, s120_128, s120_129, s120_130, s120_133, s120_134, s120_135, s120_138, s120_139, mt_co, ec, ec1, tw_gf, tw_sf, mt_27, tw_fit, t6, q, k3, nI_1, mt_s27, ed, tw_z_0]
          | some b2 =>
            rw [e3] at ed
            simp only at ed ⊢
            have hb2 := dgL_in _ _ _ e3
            have b0 : ¬ nI b2 < 0 := nI_pos (by omega)
            simp [s120_0, s120_1, s120_4, s120_6, s120_9, s120_10, s120_11, s120_12, s120_15, s120_17, s120_20, s120_21, s120_22, s120_23, s120_24, s120_27, s120_28, s120_29, s120_32, s120_33, s120_34, s120_35, s120_38, s120_39, s120_40, s120_42, s120_45, s120_46, s120_48, s120_51, s120_52, s120_54, s120_57, s120_58, s120_59, s120_60, s120_61, s120_64, s120_65, s120_66, s120_69, s120_70, s120_71, s120_72, s120_73, s120_75, s120_78, s120_80, s120_82, s120_85, s120_86, s120_87, s120_88, s120_91, s120_92, s120_95, s120_96, s120_98, s120_101, s120_102, s120_105, s120_106, s120_108, s120_111, s120_112, s120_115, s120_116, s120_117, s120_118, s120_121, s120_122, s120_125, s120_127, s120_128, s120_129, s120_130, s120_133, s120_134, s120_135, s120_138, s120_139, mt_co, ec, ec1, tw_gf, tw_sf, tw_ix, mt_27, mt_32, mt_33, tw_fit, t6, q, k3, nI_1, mt_s27, mt_s32, mt_s33, ed, b0, ev, ecl, tw_z_1]
        · rw [if_neg k1, if_neg k2, if_neg k3]
          simp only
          simp [s120_0, s120_1, s120_4, s120_6, s120_9, s120_10, s120_11, s120_12, s120_15, s120_17, s120_20, s120_21, s120_22, s120_23, s120_24, s120_27, s120_28, s120_29, s120_32, s120_33, s120_34, s120_35, s120_38, s120_39, s120_40, s120_42, s120_45, s120_46, s120_48, s120_51, s120_52, s120_54, s120_57, s120_58, s120_59, s120_60, s120_61, s120_64, s120_65, s120_66, s120_69, s120_70, s120_71, s120_72, s120_73, s120_75, s120_78, s120_80, s120_82, s120_85, s120_86, s120_87, s120_88, s120_91, s120_92, s120_95, s120_96, s120_98, s120_101, s120_102, s120_105, s120_106, s120_108, s120_111, s120_112, s120_115, s120_116, s120_117, s120_118, s120_121, s120_122, s120_125, s120_127, s120_128, s120_129, s120_130, s120_133, s120_134, s120_135, s120_138, s120_139, mt_co, ec, ec1, tw_gf, tw_sf, mt_27, tw_fit, t6, q, k1, k2, k3, nI_1, mt_s27, tw_z_0]
  · rw [if_neg q]
    simp only
    simp [s120_0, s120_1, s120_4, s120_6, s120_9, s120_10, s120_11, s120_12, s120_15, s120_17, s120_20, s120_21, s120_22, s120_23, s120_24, s120_27, s120_28, s120_29, s120_32, s120_33, s120_34, s120_35, s120_38, s120_39, s120_40, s120_42, s120_45, s120_46, s120_48, s120_51, s120_52, s120_54, s120_57, s120_58, s120_59, s120_60, s120_61, s120_64, s120_65, s120_66, s120_69, s120_70, s120_71, s120_72, s120_73, s120_75, s120_78, s120_80, s120_82, s120_85, s120_86, s120_87, s120_88, s120_91, s120_92, s120_95, s120_96, s120_98, s120_101, s120_102, s120_105, s120_106, s120_108, s120_111, s120_112, s120_115, s120_116, s120_117, s120_118, s120_121, s120_122, s120_125, s120_127, s120_128, s120_129, s120_130, s120_133, s120_134, s120_135, s120_138, s120_139, mt_co, ec, tw_gf, mt_27, t6, q, tw_z_0]
end T4
