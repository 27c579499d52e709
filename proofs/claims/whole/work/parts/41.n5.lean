/-! odds: the model -/
theorem m_told_loop (h : tw_H) (a b : Int64) (w : Int32) : ∀ (d : Nat) (x y : Int64) (v9 v10 : Value) (r : Int64), tdS d x y = some r → ¬ r = 0 → tw_b 163 6 [.long a, tw_un, .long b, tw_un, .int w, .long x, tw_un, .long y, tw_un, v9, v10] [] h = some (some (.long ((if w = 0 then a else b) / r)), h) := by
  have fin : ∀ (x y : Int64) (v9 v10 : Value), y = 0 → ¬ x = 0 → tw_b 163 6 [.long a, tw_un, .long b, tw_un, .int w, .long x, tw_un, .long y, tw_un, v9, v10] [] h = some (some (.long ((if w = 0 then a else b) / x)), h) := fun x y v9 v10 hy hx => by
    have e : lg_cmp y 0 = 0 := (lg_cmp_eq y 0).mpr hy
    rw [s163_6]
    by_cases q : w = 0 <;> simp [s163_0, s163_1, s163_3, s163_4, s163_8, s163_9, s163_10, s163_13, s163_15, s163_17, s163_18, s163_20, s163_22, s163_24, s163_26, s163_28, s163_31, s163_33, s163_36, s163_37, s163_40, s163_41, s163_43, s163_44, e, q, hx]
  intro d
  induction d with
  | zero =>
    intro x y v9 v10 r hr h0
    simp only [tdS] at hr
    by_cases q : y = 0
    · rw [if_pos q] at hr
      cases hr
      exact fin x y v9 v10 q h0
    · rw [if_neg q] at hr; cases hr
  | succ d ih =>
    intro x y v9 v10 r hr h0
    simp only [tdS] at hr
    by_cases q : y = 0
    · rw [if_pos q] at hr
      cases hr
      exact fin x y v9 v10 q h0
    · rw [if_neg q] at hr
      have e : ¬ lg_cmp y 0 = 0 := fun z => q ((lg_cmp_eq y 0).mp z)
      rw [← ih y (x - x / y * y) (.long (x - x / y * y)) tw_un r hr h0, s163_6]
      simp [s163_0, s163_1, s163_3, s163_4, s163_8, s163_9, s163_10, s163_13, s163_15, s163_17, s163_18, s163_20, s163_22, s163_24, s163_26, s163_28, s163_31, s163_33, s163_36, s163_37, s163_40, s163_41, s163_43, s163_44, e, q]
theorem m_told (h : tw_H) (a b : Int64) (w : Int32) {r : Int64} (hr : tdS 20 a b = some r) (h0 : ¬ r = 0) : tw_b 163 0 [.long a, tw_un, .long b, tw_un, .int w, tw_un, tw_un, tw_un, tw_un, tw_un, tw_un] [] h = some (some (.long ((if w = 0 then a else b) / r)), h) := by
  have hl := m_told_loop h a b w 20 a b tw_un tw_un r hr h0
  simp [s163_0, s163_1, s163_3, s163_4, s163_8, s163_9, s163_10, s163_13, s163_15, s163_17, s163_18, s163_20, s163_22, s163_24, s163_26, s163_28, s163_31, s163_33, s163_36, s163_37, s163_40, s163_41, s163_43, s163_44, hl]
section M5
variable {h : tw_H} {fl tc hk lw st hg ra rt rw nr tr : Int32} {nw n : Nat} {tf kd wt f34 f35 f : Nat → Int32}
theorem HB_nI {nw s : Nat} (hs : s < 2 ^ nw) : HB nw (nI s) := fun j h1 h2 => by
  rw [nI_bit (by omega)]
  exact Nat.testBit_lt_two_pow (Nat.lt_of_lt_of_le hs (Nat.pow_le_pow_right (by decide) h1))
theorem m_odd_loop (H : MZ h fl tc nw hk lw st hg ra rt rw n nr tr tf kd wt f34 f35) (h8 : nw ≤ 8) (hn : n ≤ 7) (hT : Tid tc st) {hr : Nat} (hhr : hr < 60) (k which was : Int32) : ∀ (d s c : Nat) (hk' : Int32), s + d = 2 ^ nw → ∃ hk'', tw_b 161 41 [.ref 27, .int k, .int (nI hr), .int which, .int was, .long (lN c), tw_un, .int (nI s)] [] (tw_set h 27 (mC fl tc (nI nw) hk' lw st hg ra rt rw (nI n) nr tr)) = tw_b 161 84 [.ref 27, .int k, .int (nI hr), .int which, .int was, .long (lN (odC (fun s => hasB (goM nw kd wt hg lw (nI s) (strM tc tf n f34 f35 st (nI hr))) k) s d c)), tw_un, .int (nI (2 ^ nw))] [] (tw_set h 27 (mC fl tc (nI nw) hk'' lw st hg ra rt rw (nI n) nr tr)) := by
  have hN : bitI (nI nw) - 1 = nI (2 ^ nw - 1) := by
    have : ∀ w : Fin 9, bitI (nI w.1) - 1 = nI (2 ^ w.1 - 1) := by decide +kernel
    exact this ⟨nw, by omega⟩
  have h256 : 2 ^ nw ≤ 256 := Nat.pow_le_pow_right (by decide) h8
  have hp : 0 < 2 ^ nw := Nat.two_pow_pos nw
  intro d
  induction d with
  | zero =>
    intro s c hk' hd
    have e1 : nI (2 ^ nw - 1) < nI s := nI_lt (by omega) (by omega)
    have hs : s = 2 ^ nw := by omega
    have gM := H.m27 hk'
    refine ⟨hk', ?_⟩
    rw [s161_41]
    simp only [odC]
    rw [← hs] at hN e1 ⊢
    simp [s161_0, s161_1, s161_2, s161_5, s161_8, s161_9, s161_12, s161_15, s161_16, s161_17, s161_18, s161_19, s161_22, s161_25, s161_28, s161_29, s161_30, s161_33, s161_35, s161_36, s161_38, s161_39, s161_43, s161_44, s161_47, s161_50, s161_51, s161_53, s161_56, s161_58, s161_59, s161_60, s161_63, s161_64, s161_67, s161_70, s161_71, s161_74, s161_75, s161_76, s161_78, s161_81, s161_85, s161_87, s161_90, s161_92, s161_93, s161_96, s161_97, s161_98, s161_99, s161_100, s161_103, tw_gf, mco gM.1, m_every gM.1, hN, e1]
  | succ d ih =>
    intro s c hk' hd
    have e1 : ¬ nI (2 ^ nw - 1) < nI s := nI_nlt (by omega) (by omega)
    have gM := H.m27 hk'
    have gM2 := H.m27 (nI s)
    have hgi := m_goIn gM2 h8 hn (HB_nI (show s < 2 ^ nw by omega)) hT.1 (nI hr) (hT.2 hr hhr)
    simp only [odC]
    obtain ⟨hk'', ih'⟩ := ih (s + 1) (c + if hasB (goM nw kd wt hg lw (nI s) (strM tc tf n f34 f35 st (nI hr))) k = true then 1 else 0) (nI s) (by omega)
    refine ⟨hk'', ?_⟩
    rw [← ih', s161_41]
    by_cases q : hasB (goM nw kd wt hg lw (nI s) (strM tc tf n f34 f35 st (nI hr))) k = true
    · simp [s161_0, s161_1, s161_2, s161_5, s161_8, s161_9, s161_12, s161_15, s161_16, s161_17, s161_18, s161_19, s161_22, s161_25, s161_28, s161_29, s161_30, s161_33, s161_35, s161_36, s161_38, s161_39, s161_43, s161_44, s161_47, s161_50, s161_51, s161_53, s161_56, s161_58, s161_59, s161_60, s161_63, s161_64, s161_67, s161_70, s161_71, s161_74, s161_75, s161_76, s161_78, s161_81, s161_85, s161_87, s161_90, s161_92, s161_93, s161_96, s161_97, s161_98, s161_99, s161_100, s161_103, tw_gf, tw_sf, tw_fit, gM.1, mco gM.1, mco gM2.1, m_every gM.1, hN, e1, tw_ss, hgi, m_isIn, tw_bi_0, q, nI_1, lN_1]
    · simp [s161_0, s161_1, s161_2, s161_5, s161_8, s161_9, s161_12, s161_15, s161_16, s161_17, s161_18, s161_19, s161_22, s161_25, s161_28, s161_29, s161_30, s161_33, s161_35, s161_36, s161_38, s161_39, s161_43, s161_44, s161_47, s161_50, s161_51, s161_53, s161_56, s161_58, s161_59, s161_60, s161_63, s161_64, s161_67, s161_70, s161_71, s161_74, s161_75, s161_76, s161_78, s161_81, s161_85, s161_87, s161_90, s161_92, s161_93, s161_96, s161_97, s161_98, s161_99, s161_100, s161_103, tw_gf, tw_sf, tw_fit, gM.1, mco gM.1, mco gM2.1, m_every gM.1, hN, e1, tw_ss, hgi, m_isIn, tw_bi_0, q, nI_1, lN_1]
theorem m_odds (H : MZ h fl tc nw hk lw st hg ra rt rw n nr tr tf kd wt f34 f35) (h8 : nw ≤ 8) (hn : n ≤ 7) (hT : Tid tc st) {hr kk : Nat} (hhr : hr < 60) (hkk : kk < nw) {which : Int32} (h2 : ¬ which < 0 ∧ ¬ 1 < which) {x : Int64} (ht : tdS 20 (lN (odC (fun s => hasB (goM nw kd wt hg lw (nI s) (strM tc tf n f34 f35 st (nI hr))) (nI kk)) 0 (2 ^ nw) 0)) (lN (2 ^ nw)) = some x) (h0 : ¬ x = 0) : tw_b 161 0 [.ref 27, .int (nI kk), .int (nI hr), .int which, tw_un, tw_un, tw_un, tw_un] [] h = some (some (.long ((if which = 0 then lN (odC (fun s => hasB (goM nw kd wt hg lw (nI s) (strM tc tf n f34 f35 st (nI hr))) (nI kk)) 0 (2 ^ nw) 0) else lN (2 ^ nw)) / x)), h) := by
  have a1 : ¬ nI hr < 0 := nI_pos (by omega)
  have a2 : nI hr < 60 := nI_lt (b := 60) (by omega) (by omega)
  have d1 : ¬ nI kk < 0 := nI_pos (by omega)
  have d2 : nI kk < nI nw := nI_lt (by omega) (by omega)
  have i3 : ((0 : Int64) ≤ which.toInt64) = ¬ which < 0 := l_ge which 0 0 rfl
  have i4 : (which.toInt64 ≤ (1 : Int64)) = ¬ 1 < which := l_le which 1 1 rfl
  have hi := m_in which.toInt64 0 1 h
  rw [show decide ((0 : Int64) ≤ which.toInt64 ∧ which.toInt64 ≤ 1) = true from by rw [decide_eq_true_iff, i3, i4]; exact h2] at hi
  have hN : (bitI (nI nw) - 1).toInt64 + 1 = lN (2 ^ nw) := by
    have : ∀ w : Fin 9, (bitI (nI w.1) - 1).toInt64 + 1 = lN (2 ^ w.1) := by decide +kernel
    exact this ⟨nw, by omega⟩
  obtain ⟨hk'', hl⟩ := m_odd_loop H h8 hn hT hhr (nI kk) which hk (2 ^ nw) 0 0 hk (by omega)
  rw [nI_0, tw_si h H.1, show lN 0 = 0 from rfl] at hl
  have gM := H.m27 hk''
  generalize odC (fun s => hasB (goM nw kd wt hg lw (nI s) (strM tc tf n f34 f35 st (nI hr))) (nI kk)) 0 (2 ^ nw) 0 = C at *
  have hto := m_told h (lN C) (lN (2 ^ nw)) which ht h0
  simp [s161_0, s161_1, s161_2, s161_5, s161_8, s161_9, s161_12, s161_15, s161_16, s161_17, s161_18, s161_19, s161_22, s161_25, s161_28, s161_29, s161_30, s161_33, s161_35, s161_36, s161_38, s161_39, s161_43, s161_44, s161_47, s161_50, s161_51, s161_53, s161_56, s161_58, s161_59, s161_60, s161_63, s161_64, s161_67, s161_70, s161_71, s161_74, s161_75, s161_76, s161_78, s161_81, s161_85, s161_87, s161_90, s161_92, s161_93, s161_96, s161_97, s161_98, s161_99, s161_100, s161_103, tw_gf, H.1, mco H.1, m_noWork H.1, m_isHour, tw_bi_0, a1, a2, d1, d2, hi, hl]
  simp [s161_0, s161_1, s161_2, s161_5, s161_8, s161_9, s161_12, s161_15, s161_16, s161_17, s161_18, s161_19, s161_22, s161_25, s161_28, s161_29, s161_30, s161_33, s161_35, s161_36, s161_38, s161_39, s161_43, s161_44, s161_47, s161_50, s161_51, s161_53, s161_56, s161_58, s161_59, s161_60, s161_63, s161_64, s161_67, s161_70, s161_71, s161_74, s161_75, s161_76, s161_78, s161_81, s161_84, s161_85, s161_87, s161_90, s161_92, s161_93, s161_96, s161_97, s161_98, s161_99, s161_100, s161_103, tw_gf, tw_sf, tw_fit, gM.1, tw_ss, tw_si h H.1, mco H.1, m_every H.1, hN, hto]
end M5
