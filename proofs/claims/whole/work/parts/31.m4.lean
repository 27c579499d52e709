/-! the model's going -/
def TT (nw : Nat) (kd wt : Nat → Int32) : Nat → Int32 := fun k => if k < nw then tkK (kd k) (wt k) else 0
def HB (nw : Nat) (set : Int32) : Prop := ∀ j, nw ≤ j → j < 8 → hasB set (nI j) = false
def MZ (h : tw_H) (fl tc : Int32) (nw : Nat) (hk lw st hg ra rt rw : Int32) (n : Nat) (nr tr : Int32) (tf kd wt f34 f35 : Nat → Int32) : Prop := h.2.2 27 = some (mC fl tc (nI nw) hk lw st hg ra rt rw (nI n) nr tr) ∧ h.2.2 28 = some (iC 6 tf) ∧ h.2.2 29 = some (iC 8 kd) ∧ h.2.2 30 = some (iC 8 wt) ∧ h.2.2 34 = some (iC 7 f34) ∧ h.2.2 35 = some (iC 7 f35)
theorem kyF_congr {f g : Nat → Int32} (law : Int32) {k : Nat} (h : f k = g k) : kyF f law k = kyF g law k := by
  unfold kyF
  rw [h]
section M4
variable {h : tw_H} {fl tc hk lw st hg ra rt rw nr tr : Int32} {nw n : Nat} {tf kd wt f34 f35 f : Nat → Int32}
theorem MZ.set (H : MZ h fl tc nw hk lw st hg ra rt rw n nr tr tf kd wt f34 f35) {a : Nat} {e : tw_C} (ha : a < 27 ∨ (30 < a ∧ a < 34) ∨ 35 < a) : MZ (tw_set h a e) fl tc nw hk lw st hg ra rt rw n nr tr tf kd wt f34 f35 := by
  unfold MZ at H ⊢
  simp only [tw_sg]
  simpa [show ¬ 27 = a by omega, show ¬ 28 = a by omega, show ¬ 29 = a by omega, show ¬ 30 = a by omega, show ¬ 34 = a by omega, show ¬ 35 = a by omega] using H
theorem m_takesNowQ (H : MZ h fl tc nw hk lw st hg ra rt rw n nr tr tf kd wt f34 f35) (h8 : nw ≤ 8) {k : Nat} (hk : k < nw) : tw_b 138 0 [.ref 27, .int (nI k)] [] h = some (some (.int (aT (TT nw kd wt) hg k)), h) := by
  rw [m_takesNow H.1 H.2.2.1 H.2.2.2.1 (show k < 8 by omega)]
  unfold aT TT
  rw [if_pos hk]
theorem m_all_loop (H : MZ h fl tc nw hk lw st hg ra rt rw n nr tr tf kd wt f34 f35) (h8 : nw ≤ 8) {set : Int32} (hb : HB nw set) : ∀ (d s : Nat) (acc : Int32), s + d = nw → tw_b 137 4 [.ref 27, .int set, .int acc, .int (nI s)] [] h = some (some (.int (tkS (aT (TT nw kd wt) hg) set s (8 - s) acc)), h) := by
  intro d
  induction d with
  | zero =>
    intro s acc hd
    have e : ¬ nI s < nI nw := nI_nlt (by omega) (by omega)
    rw [tkS_none (8 - s) s acc (by omega) (fun j h1 h2 => hb j (by omega) h2), s137_4]
    simp [s137_0, s137_1, s137_2, s137_3, s137_5, s137_6, s137_9, s137_12, s137_13, s137_14, s137_15, s137_18, s137_21, s137_22, s137_23, s137_26, s137_29, s137_30, s137_31, s137_32, s137_35, s137_38, s137_39, tw_gf, H.1, e]
  | succ d ih =>
    intro s acc hd
    have e : nI s < nI nw := nI_lt (by omega) (by omega)
    rw [show 8 - s = 8 - (s + 1) + 1 by omega, tkS, s137_4]
    by_cases q : hasB set (nI s) = true
    · simp [s137_0, s137_1, s137_2, s137_3, s137_5, s137_6, s137_9, s137_12, s137_13, s137_14, s137_15, s137_18, s137_21, s137_22, s137_23, s137_26, s137_29, s137_30, s137_31, s137_32, s137_35, s137_38, s137_39, tw_gf, H.1, mco H.1, e, m_isIn, tw_bi_0, q, m_takesNowQ H h8 (show s < nw by omega), nI_1, ih (s + 1) _ (show s + 1 + d = nw by omega)]
    · simp [s137_0, s137_1, s137_2, s137_3, s137_5, s137_6, s137_9, s137_12, s137_13, s137_14, s137_15, s137_18, s137_21, s137_22, s137_23, s137_26, s137_29, s137_30, s137_31, s137_32, s137_35, s137_38, s137_39, tw_gf, H.1, mco H.1, e, m_isIn, tw_bi_0, q, nI_1, ih (s + 1) _ (show s + 1 + d = nw by omega)]
theorem m_takesAll (H : MZ h fl tc nw hk lw st hg ra rt rw n nr tr tf kd wt f34 f35) (h8 : nw ≤ 8) {set : Int32} (hb : HB nw set) : tw_b 137 0 [.ref 27, .int set, tw_un, tw_un] [] h = some (some (.int (tkS (aT (TT nw kd wt) hg) set 0 8 0)), h) := by
  have hl := m_all_loop H h8 hb nw 0 0 (by omega)
  rw [nI_0] at hl
  simp [s137_0, s137_1, s137_2, s137_3, s137_5, s137_6, s137_9, s137_12, s137_13, s137_14, s137_15, s137_18, s137_21, s137_22, s137_23, s137_26, s137_29, s137_30, s137_31, s137_32, s137_35, s137_38, s137_39, hl]
theorem m_first_loop (H : MZ h fl tc nw hk lw st hg ra rt rw n nr tr tf kd wt f34 f35) (h8 : nw ≤ 8) (set : Int32) : ∀ (d s : Nat) (b : Option Nat) (v : Value), s + d = nw → (∀ q, b = some q → q < s) → tw_b 139 5 [.ref 27, .int set, .int (encO (-9) b), .int (nI s), v] [] h = some (some (.int (encO (-9) (bsS (fun j => hasB set (nI j)) (kyF (aT (TT nw kd wt) hg) lw) s d b))), h) := by
  intro d
  induction d with
  | zero =>
    intro s b v hd _
    have e : ¬ nI s < nI nw := nI_nlt (by omega) (by omega)
    rw [s139_5]
    simp [s139_0, s139_2, s139_3, s139_4, s139_6, s139_7, s139_10, s139_13, s139_14, s139_15, s139_18, s139_21, s139_22, s139_25, s139_26, s139_29, s139_30, s139_33, s139_34, s139_35, s139_38, s139_39, s139_40, s139_43, s139_46, s139_47, s139_50, s139_51, s139_54, s139_55, s139_56, s139_59, s139_60, s139_61, s139_64, s139_67, s139_68, s139_71, s139_72, s139_74, s139_76, s139_79, s139_80, s139_83, s139_84, s139_85, s139_88, s139_91, s139_92, tw_gf, H.1, e, bsS]
  | succ d ih =>
    intro s b v hd hb
    have e : nI s < nI nw := nI_lt (by omega) (by omega)
    have es := m_takesNowQ H h8 (show s < nw by omega)
    simp only [bsS]
    rw [s139_5]
    by_cases q : hasB set (nI s) = true
    · cases b with
      | none =>
        have i1 := ih (s + 1) (some s) (.int 1) (by omega) (fun q hq => by cases hq; omega)
        simp only [encO] at i1 ⊢
        simp [s139_0, s139_2, s139_3, s139_4, s139_6, s139_7, s139_10, s139_13, s139_14, s139_15, s139_18, s139_21, s139_22, s139_25, s139_26, s139_29, s139_30, s139_33, s139_34, s139_35, s139_38, s139_39, s139_40, s139_43, s139_46, s139_47, s139_50, s139_51, s139_54, s139_55, s139_56, s139_59, s139_60, s139_61, s139_64, s139_67, s139_68, s139_71, s139_72, s139_74, s139_76, s139_79, s139_80, s139_83, s139_84, s139_85, s139_88, s139_91, s139_92, tw_gf, H.1, e, m_isIn, tw_bi_0, q, nI_1, i1]
      | some p =>
        have hp := hb p rfl
        have ep := m_takesNowQ H h8 (show p < nw by omega)
        have e0 : ¬ nI p < 0 := nI_pos (by omega)
        have i1 := ih (s + 1) (some s) (.int 1) (by omega) (fun q hq => by cases hq; omega)
        have i2 := ih (s + 1) (some p) (.int 0) (by omega) (fun q hq => by cases hq; omega)
        simp only [encO] at i1 i2 ⊢
        have hky : kyF (aT (TT nw kd wt) hg) lw s < kyF (aT (TT nw kd wt) hg) lw p ↔ (lw = 1 ∧ aT (TT nw kd wt) hg p < aT (TT nw kd wt) hg s) ∨ (lw = 2 ∧ aT (TT nw kd wt) hg s < aT (TT nw kd wt) hg p) := by
          unfold kyF
          by_cases q1 : lw = 1
          · simp only [q1, if_true, Int32.lt_iff_toInt_lt, true_and, show ¬ (1 : Int32) = 2 by decide, false_and, or_false]
            omega
          · by_cases q2 : lw = 2
            · simp [q2, Int32.lt_iff_toInt_lt]
            · simp [q1, q2]
        generalize aT (TT nw kd wt) hg p = A at *
        generalize aT (TT nw kd wt) hg s = B at *
        by_cases q1 : lw = 1
        · by_cases q3 : A < B
          · have : kyF (aT (TT nw kd wt) hg) lw s < kyF (aT (TT nw kd wt) hg) lw p := hky.mpr (Or.inl ⟨q1, q3⟩)
            rw [if_pos ⟨q, fun _ z => by cases z; exact this⟩]
            rw [← i1]
            simp [s139_0, s139_2, s139_3, s139_4, s139_6, s139_7, s139_10, s139_13, s139_14, s139_15, s139_18, s139_21, s139_22, s139_25, s139_26, s139_29, s139_30, s139_33, s139_34, s139_35, s139_38, s139_39, s139_40, s139_43, s139_46, s139_47, s139_50, s139_51, s139_54, s139_55, s139_56, s139_59, s139_60, s139_61, s139_64, s139_67, s139_68, s139_71, s139_72, s139_74, s139_76, s139_79, s139_80, s139_83, s139_84, s139_85, s139_88, s139_91, s139_92, tw_gf, H.1, mco H.1, e, m_isIn, tw_bi_0, q, nI_1, e0, es, ep, q1, q3]
          · have : ¬ kyF (aT (TT nw kd wt) hg) lw s < kyF (aT (TT nw kd wt) hg) lw p := fun z => by rcases hky.mp z with y | y; exact q3 y.2; rw [q1] at y; exact absurd y.1 (by decide)
            rw [if_neg (fun z => this (z.2 p rfl))]
            rw [← i2]
            simp [s139_0, s139_2, s139_3, s139_4, s139_6, s139_7, s139_10, s139_13, s139_14, s139_15, s139_18, s139_21, s139_22, s139_25, s139_26, s139_29, s139_30, s139_33, s139_34, s139_35, s139_38, s139_39, s139_40, s139_43, s139_46, s139_47, s139_50, s139_51, s139_54, s139_55, s139_56, s139_59, s139_60, s139_61, s139_64, s139_67, s139_68, s139_71, s139_72, s139_74, s139_76, s139_79, s139_80, s139_83, s139_84, s139_85, s139_88, s139_91, s139_92, tw_gf, H.1, mco H.1, e, m_isIn, tw_bi_0, q, nI_1, e0, es, ep, q1, q3]
        · by_cases q2 : lw = 2
          · by_cases q3 : B < A
            · have : kyF (aT (TT nw kd wt) hg) lw s < kyF (aT (TT nw kd wt) hg) lw p := hky.mpr (Or.inr ⟨q2, q3⟩)
              rw [if_pos ⟨q, fun _ z => by cases z; exact this⟩]
              rw [← i1]
              simp [s139_0, s139_2, s139_3, s139_4, s139_6, s139_7, s139_10, s139_13, s139_14, s139_15, s139_18, s139_21, s139_22, s139_25, s139_26, s139_29, s139_30, s139_33, s139_34, s139_35, s139_38, s139_39, s139_40, s139_43, s139_46, s139_47, s139_50, s139_51, s139_54, s139_55, s139_56, s139_59, s139_60, s139_61, s139_64, s139_67, s139_68, s139_71, s139_72, s139_74, s139_76, s139_79, s139_80, s139_83, s139_84, s139_85, s139_88, s139_91, s139_92, tw_gf, H.1, mco H.1, e, m_isIn, tw_bi_0, q, nI_1, e0, es, ep, q2, q3]
            · have : ¬ kyF (aT (TT nw kd wt) hg) lw s < kyF (aT (TT nw kd wt) hg) lw p := fun z => by rcases hky.mp z with y | y; exact q1 y.1; exact q3 y.2
              rw [if_neg (fun z => this (z.2 p rfl))]
              rw [← i2]
              simp [s139_0, s139_2, s139_3, s139_4, s139_6, s139_7, s139_10, s139_13, s139_14, s139_15, s139_18, s139_21, s139_22, s139_25, s139_26, s139_29, s139_30, s139_33, s139_34, s139_35, s139_38, s139_39, s139_40, s139_43, s139_46, s139_47, s139_50, s139_51, s139_54, s139_55, s139_56, s139_59, s139_60, s139_61, s139_64, s139_67, s139_68, s139_71, s139_72, s139_74, s139_76, s139_79, s139_80, s139_83, s139_84, s139_85, s139_88, s139_91, s139_92, tw_gf, H.1, mco H.1, e, m_isIn, tw_bi_0, q, nI_1, e0, es, ep, q2, q3]
          · have : ¬ kyF (aT (TT nw kd wt) hg) lw s < kyF (aT (TT nw kd wt) hg) lw p := fun z => by rcases hky.mp z with y | y; exact q1 y.1; exact q2 y.1
            rw [if_neg (fun z => this (z.2 p rfl))]
            rw [← i2]
            simp [s139_0, s139_2, s139_3, s139_4, s139_6, s139_7, s139_10, s139_13, s139_14, s139_15, s139_18, s139_21, s139_22, s139_25, s139_26, s139_29, s139_30, s139_33, s139_34, s139_35, s139_38, s139_39, s139_40, s139_43, s139_46, s139_47, s139_50, s139_51, s139_54, s139_55, s139_56, s139_59, s139_60, s139_61, s139_64, s139_67, s139_68, s139_71, s139_72, s139_74, s139_76, s139_79, s139_80, s139_83, s139_84, s139_85, s139_88, s139_91, s139_92, tw_gf, H.1, mco H.1, e, m_isIn, tw_bi_0, q, nI_1, e0, q1, q2]
    · have i2 := ih (s + 1) b v (by omega) (fun q hq => by have := hb q hq; omega)
      simp [s139_0, s139_2, s139_3, s139_4, s139_6, s139_7, s139_10, s139_13, s139_14, s139_15, s139_18, s139_21, s139_22, s139_25, s139_26, s139_29, s139_30, s139_33, s139_34, s139_35, s139_38, s139_39, s139_40, s139_43, s139_46, s139_47, s139_50, s139_51, s139_54, s139_55, s139_56, s139_59, s139_60, s139_61, s139_64, s139_67, s139_68, s139_71, s139_72, s139_74, s139_76, s139_79, s139_80, s139_83, s139_84, s139_85, s139_88, s139_91, s139_92, tw_gf, H.1, e, m_isIn, tw_bi_0, q, nI_1, i2]
theorem bs_8 {set : Int32} {ky : Nat → Int} (h8 : nw ≤ 8) (hb : HB nw set) : bsS (fun j => hasB set (nI j)) ky 0 nw none = bsS (fun j => hasB set (nI j)) ky 0 8 none := by
  refine Fst.uniq (n := 8) ?_ (bs_fst _ _ 8)
  have hf := bs_fst (fun j => hasB set (nI j)) ky nw
  refine ⟨fun z j hj => ?_, fun r hr => ?_⟩
  · by_cases q : j < nw
    · exact hf.1 z j q
    · exact hb j (by omega) hj
  · obtain ⟨r1, r2, r3⟩ := hf.2 r hr
    refine ⟨by omega, r2, fun j hj hm hne => ?_⟩
    by_cases q : j < nw
    · exact r3 j q hm hne
    · have : hasB set (nI j) = false := hb j (by omega) hj
      exact absurd hm (by simp [this])
theorem m_stopsFirst (H : MZ h fl tc nw hk lw st hg ra rt rw n nr tr tf kd wt f34 f35) (h8 : nw ≤ 8) {set : Int32} (hb : HB nw set) : tw_b 139 0 [.ref 27, .int set, tw_un, tw_un, tw_un] [] h = some (some (.int (encO (-9) (bsS (fun j => hasB set (nI j)) (kyF (aT (TT nw kd wt) hg) lw) 0 8 none))), h) := by
  have hl := m_first_loop H h8 set nw 0 none tw_un (by omega) (fun q hq => by cases hq)
  rw [nI_0, bs_8 h8 hb, show encO (-9) none = -9 from rfl] at hl
  simp [s139_0, s139_2, s139_3, s139_4, s139_6, s139_7, s139_10, s139_13, s139_14, s139_15, s139_18, s139_21, s139_22, s139_25, s139_26, s139_29, s139_30, s139_33, s139_34, s139_35, s139_38, s139_39, s139_40, s139_43, s139_46, s139_47, s139_50, s139_51, s139_54, s139_55, s139_56, s139_59, s139_60, s139_61, s139_64, s139_67, s139_68, s139_71, s139_72, s139_74, s139_76, s139_79, s139_80, s139_83, s139_84, s139_85, s139_88, s139_91, s139_92, hl]
theorem HB.minus {set : Int32} (hb : HB nw set) {k : Nat} (hk : k < 8) : HB nw (set &&& (bitI (nI k) ^^^ -1)) := fun j h1 h2 => by
  rw [hasB_minus _ (by omega) (by omega), hb j h1 h2]
  rfl
theorem m_go_loop (H : MZ h fl tc nw hk lw st hg ra rt rw n nr tr tf kd wt f34 f35) (h8 : nw ≤ 8) (hour str : Int32) (h0 : ¬ str < 0) : ∀ (d : Nat) (g : Int32), HB nw g → cnt g 0 8 ≤ d → tw_b 136 11 [.ref 27, .int hour, .int str, .int g] [] h = some (some (.int (mgS (aT (TT nw kd wt) hg) lw str d g)), h) := by
  intro d
  induction d with
  | zero =>
    intro g hb hc
    have e := tkS_none (ft := aT (TT nw kd wt) hg) (g := g) 8 0 0 (by omega) (cnt_zero 8 0 (by omega) (by omega))
    have ea := m_takesAll H h8 hb
    rw [e] at ea
    rw [s136_11]
    simp [s136_0, s136_1, s136_2, s136_5, s136_6, s136_7, s136_10, s136_12, s136_13, s136_16, s136_17, s136_20, s136_21, s136_22, s136_23, s136_24, s136_27, s136_28, s136_29, s136_30, s136_31, s136_32, s136_35, s136_36, mco H.1, ea, h0, mgS]
  | succ d ih =>
    intro g hb hc
    have ea := m_takesAll H h8 hb
    have ef := m_stopsFirst H h8 hb
    simp only [mgS]
    rw [s136_11]
    by_cases q : str < tkS (aT (TT nw kd wt) hg) g 0 8 0
    · rw [if_pos q]
      have hf := bs_fst (fun j => hasB g (nI j)) (kyF (aT (TT nw kd wt) hg) lw) 8
      cases hbs : bsS (fun j => hasB g (nI j)) (kyF (aT (TT nw kd wt) hg) lw) 0 8 none with
      | none =>
        rw [hbs] at hf
        have e := tkS_none (ft := aT (TT nw kd wt) hg) (g := g) 8 0 0 (by omega) (fun j _ hj => hf.1 rfl j hj)
        rw [e] at q
        exact absurd q h0
      | some k =>
        rw [hbs] at hf ef
        obtain ⟨k1, k2, _⟩ := hf.2 k rfl
        have := cnt_minus g k1 k2 8 0 (by omega) (by omega)
        have i1 := ih _ (hb.minus k1) (show cnt (g &&& (bitI (nI k) ^^^ -1)) 0 8 ≤ d by omega)
        have eb : (1 : Int32) <<< (nI k &&& 31) = bitI (nI k) := rfl
        simp only [encO] at ef
        simp [s136_0, s136_1, s136_2, s136_5, s136_6, s136_7, s136_10, s136_12, s136_13, s136_16, s136_17, s136_20, s136_21, s136_22, s136_23, s136_24, s136_27, s136_28, s136_29, s136_30, s136_31, s136_32, s136_35, s136_36, mco H.1, ea, ef, q, eb]
        simpa using i1
    · rw [if_neg q]
      simp [s136_0, s136_1, s136_2, s136_5, s136_6, s136_7, s136_10, s136_12, s136_13, s136_16, s136_17, s136_20, s136_21, s136_22, s136_23, s136_24, s136_27, s136_28, s136_29, s136_30, s136_31, s136_32, s136_35, s136_36, mco H.1, ea, q]
/-- which works go in an hour -/
def goM (nw : Nat) (kd wt : Nat → Int32) (hg lw hk str : Int32) : Int32 := goF (aT (TT nw kd wt) hg) (odZ (aT (TT nw kd wt) hg) lw) hk str
theorem goM_mgS {str : Int32} (h0 : ¬ str < 0) : goM nw kd wt hg lw hk str = mgS (aT (TT nw kd wt) hg) lw str 8 hk := by
  unfold goM goF odZ orF
  exact goS_mgS h0 8 0 255 hk _ (by omega) (by decide +kernel) (fun j hj _ => by
    have : ∀ j : Fin 8, hasB 255 (nI j.1) = true := by decide +kernel
    exact this ⟨j, hj⟩)
theorem cnt_max (g : Int32) : ∀ (d s : Nat), cnt g s d ≤ d := by
  intro d
  induction d with
  | zero => intro s; exact Nat.le_refl _
  | succ d ih =>
    intro s
    simp only [cnt]
    have := ih (s + 1)
    split <;> omega
theorem strM_pos (tc : Int32) (tf : Nat → Int32) (n : Nat) (f34 f35 : Nat → Int32) (st hour : Int32) : ¬ strM tc tf n f34 f35 st hour < 0 := by
  unfold strM
  simp only
  split
  · decide
  · assumption
theorem m_goIn (H : MZ h fl tc nw hk lw st hg ra rt rw n nr tr tf kd wt f34 f35) (h8 : nw ≤ 8) (hn : n ≤ 7) (hb : HB nw hk) (htc : ¬ tc = 0) (hour : Int32) (hv : tw_vi ((st + hour) - (st + hour) / tc * tc) 6 = true) : tw_b 136 0 [.ref 27, .int hour, tw_un, tw_un] [] h = some (some (.int (goM nw kd wt hg lw hk (strM tc tf n f34 f35 st hour))), h) := by
  have hl := m_go_loop H h8 hour (strM tc tf n f34 f35 st hour) (strM_pos _ _ _ _ _ _ _) 8 hk hb (cnt_max hk 8 0)
  rw [goM_mgS (strM_pos _ _ _ _ _ _ _)]
  simp [s136_0, s136_1, s136_2, s136_5, s136_6, s136_7, s136_10, s136_12, s136_13, s136_16, s136_17, s136_20, s136_21, s136_22, s136_23, s136_24, s136_27, s136_28, s136_29, s136_30, s136_31, s136_32, s136_35, s136_36, tw_gf, H.1, mco H.1, m_strengthOf H.1 H.2.1 H.2.2.2.2.1 H.2.2.2.2.2 hn htc hour hv, hl]
end M4
