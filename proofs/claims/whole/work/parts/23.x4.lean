/-! the class's parts: works, the order of stopping -/
section XW
variable {h : tw_H} {a c : Nat} {nu wt : Int32}
theorem x_takesW (ha : h.2.2 a = some (oC c [.int nu, .int wt])) (h0 : a ≠ 0) (hc : c = 9 ∨ c = 0 ∨ c = 4) : tw_b 33 0 [.ref a] [] h = some (some (.int wt), h) := by
  have : c = 0 ∨ c = 4 ∨ c = 9 := by omega
  simp [s33_0, s33_1, s33_4, tw_gf, ha, h0, this]
theorem x_takesB (ha : h.2.2 a = some (oC c [.int nu, .int wt])) (h0 : a ≠ 0) (hc : c = 0 ∨ c = 4) : tw_b 31 0 [.ref a] [] h = some (some (.int (wt + 1)), h) := by
  have hco : tw_co h a = some c := by simp [tw_co, ha, h0]
  have h12 : c < 12 := by omega
  simp only [s31_0, s31_1 _ _ _ hco h12, x_takesW ha h0 (by omega), Option.bind_some, Option.bind_none, Option.toList_some, Option.toList_none, List.cons_append, List.nil_append, s31_4, s31_5, s31_6]
theorem x_takesS (ha : h.2.2 a = some (oC 4 [.int nu, .int wt])) (h0 : a ≠ 0) : tw_b 32 0 [.ref a] [] h = some (some (.int (2 * (wt + 1))), h) := by
  have hco : tw_co h a = some 4 := by simp [tw_co, ha, h0]
  have h12 : 4 < 12 := by omega
  simp only [s32_0, s32_1, s32_2 _ _ _ _ hco h12, x_takesB ha h0 (by omega), Option.bind_some, Option.bind_none, Option.toList_some, Option.toList_none, List.cons_append, List.nil_append, s32_5, s32_6]
/-- what a work takes, by its class -/
def tkC (c : Nat) (wt : Int32) : Int32 := if c = 0 then wt + 1 else if c = 4 then 2 * (wt + 1) else wt
end XW
section XO
variable {h : tw_H} {o tk od : Nat} {ft fo : Nat → Int32}
def ahd (ft : Nat → Int32) (law k q : Int32) : Bool := if law = 1 then decide (atF 8 ft q < atF 8 ft k) else if law = 2 then decide (atF 8 ft k < atF 8 ft q) else false
theorem x_ahead (ho : h.2.2 o = some (oC 6 [.ref tk, .ref od])) (h0 : o ≠ 0) (ht : h.2.2 tk = some (iC 8 ft)) (k q law : Int32) : tw_b 36 0 [.ref o, .int k, .int q, .int law] [] h = some (some (.int (tw_bi (ahd ft law k q))), h) := by
  have ea := fun i => x_at i ht (show 8 < 2 ^ 31 by decide)
  by_cases q1 : law = 1
  · by_cases q2 : atF 8 ft q < atF 8 ft k <;> simp [s36_0, s36_1, s36_28, s36_29, s36_32, s36_33, s36_36, s36_37, s36_40, s36_41, s36_44, s36_47, s36_48, s36_51, s36_52, s36_53, s36_54, s36_57, s36_58, s36_61, s36_62, s36_65, s36_66, s36_69, s36_72, s36_73, s36_76, s36_77, s36_78, s36_79, tw_gf, ho, h0, ea, q1, q2, ahd, tw_bi, tw_z_0, tw_z_1]
  · by_cases q3 : law = 2
    · by_cases q2 : atF 8 ft k < atF 8 ft q <;> simp [s36_0, s36_1, s36_28, s36_29, s36_32, s36_33, s36_36, s36_37, s36_40, s36_41, s36_44, s36_47, s36_48, s36_51, s36_52, s36_53, s36_54, s36_57, s36_58, s36_61, s36_62, s36_65, s36_66, s36_69, s36_72, s36_73, s36_76, s36_77, s36_78, s36_79, tw_gf, ho, h0, ea, q3, q2, ahd, tw_bi, tw_z_0, tw_z_1]
    · simp [s36_0, s36_1, s36_28, s36_29, s36_32, s36_33, s36_36, s36_37, s36_40, s36_41, s36_44, s36_47, s36_48, s36_51, s36_52, s36_53, s36_54, s36_57, s36_58, s36_61, s36_62, s36_65, s36_66, s36_69, s36_72, s36_73, s36_76, s36_77, s36_78, s36_79, tw_gf, ho, h0, ea, q1, q3, ahd, tw_bi, tw_z_0, tw_z_1]
def frS (ft : Nat → Int32) (set law : Int32) : Nat → Nat → Int32 → Int32
  | _, 0, fst => fst
  | s, d + 1, fst => frS ft set law (s + 1) d (if hasB set (nI s) = true ∧ (fst = -1 ∨ ahd ft law (nI s) fst = true) then nI s else fst)
theorem x_first_loop (ho : h.2.2 o = some (oC 6 [.ref tk, .ref od])) (h0 : o ≠ 0) (ht : h.2.2 tk = some (iC 8 ft)) (set law : Int32) : ∀ (d s : Nat) (fst : Int32), s + d = 8 → tw_b 34 5 [.ref o, .int set, .int law, .int fst, .int (nI s)] [] h = some (some (.int (frS ft set law s d fst)), h) := by
  have hco : tw_co h o = some 6 := by simp [tw_co, ho, h0]
  intro d
  induction d with
  | zero =>
    intro s fst hd
    have e : ¬ nI s < nI 8 := nI_nlt (by omega) (by omega)
    rw [s34_5]
    simp [s34_0, s34_1, s34_2, s34_3, s34_7, s34_8, s34_11, s34_12, s34_15, s34_16, s34_18, s34_21, s34_24, s34_25, s34_26, s34_29, s34_30, s34_32, s34_33, s34_34, s34_37, s34_40, s34_42, s34_43, s34_46, s34_49, s34_50, tw_gf, tw_al, ho, h0, ht, tw_nI, e, frS]
  | succ d ih =>
    intro s fst hd
    have e : nI s < nI 8 := nI_lt (by omega) (by omega)
    rw [s34_5]
    by_cases q : hasB set (nI s) = true
    · by_cases q2 : fst = -1
      · simp [s34_0, s34_1, s34_2, s34_3, s34_7, s34_8, s34_11, s34_12, s34_15, s34_16, s34_18, s34_21, s34_24, s34_25, s34_26, s34_29, s34_30, s34_32, s34_33, s34_34, s34_37, s34_40, s34_42, s34_43, s34_46, s34_49, s34_50, tw_gf, tw_al, ho, h0, ht, tw_nI, e, x_has, tw_bi_0, q, q2, nI_1, ih (s + 1) _ (show s + 1 + d = 8 by omega), frS]
      · by_cases q3 : ahd ft law (nI s) fst = true
        · simp [s34_0, s34_1, s34_2, s34_3, s34_7, s34_8, s34_11, s34_12, s34_15, s34_16, s34_18, s34_21, s34_24, s34_25, s34_26, s34_29, s34_30, s34_32, s34_33, s34_34, s34_37, s34_40, s34_42, s34_43, s34_46, s34_49, s34_50, tw_gf, tw_al, ho, h0, ht, tw_nI, e, x_has, x_ahead ho h0 ht, hco, tw_bi_0, q, q2, q3, nI_1, ih (s + 1) _ (show s + 1 + d = 8 by omega), frS]
        · simp [s34_0, s34_1, s34_2, s34_3, s34_7, s34_8, s34_11, s34_12, s34_15, s34_16, s34_18, s34_21, s34_24, s34_25, s34_26, s34_29, s34_30, s34_32, s34_33, s34_34, s34_37, s34_40, s34_42, s34_43, s34_46, s34_49, s34_50, tw_gf, tw_al, ho, h0, ht, tw_nI, e, x_has, x_ahead ho h0 ht, hco, tw_bi_0, q, q2, q3, nI_1, ih (s + 1) _ (show s + 1 + d = 8 by omega), frS]
    · simp [s34_0, s34_1, s34_2, s34_3, s34_7, s34_8, s34_11, s34_12, s34_15, s34_16, s34_18, s34_21, s34_24, s34_25, s34_26, s34_29, s34_30, s34_32, s34_33, s34_34, s34_37, s34_40, s34_42, s34_43, s34_46, s34_49, s34_50, tw_gf, tw_al, ho, h0, ht, tw_nI, e, x_has, tw_bi_0, q, nI_1, ih (s + 1) _ (show s + 1 + d = 8 by omega), frS]
def frF (ft : Nat → Int32) (set law : Int32) : Int32 := frS ft set law 0 8 (-1)
theorem x_first (ho : h.2.2 o = some (oC 6 [.ref tk, .ref od])) (h0 : o ≠ 0) (ht : h.2.2 tk = some (iC 8 ft)) (set law : Int32) : tw_b 34 0 [.ref o, .int set, .int law, tw_un, tw_un] [] h = some (some (.int (frF ft set law)), h) := by
  have hq := x_first_loop ho h0 ht set law 8 0 (-1) (by omega)
  rw [nI_0] at hq
  simp [s34_0, s34_1, s34_2, s34_3, s34_7, s34_8, s34_11, s34_12, s34_15, s34_16, s34_18, s34_21, s34_24, s34_25, s34_26, s34_29, s34_30, s34_32, s34_33, s34_34, s34_37, s34_40, s34_42, s34_43, s34_46, s34_49, s34_50, hq, frF]
/-- the works' cells: what each takes -/
def WkAt (h : tw_H) (g : Nat → Option Nat) (T : Nat → Int32) : Prop := ∀ k, k < 8 → (g k = none ∧ T k = 0) ∨ ∃ a c nu wt, g k = some a ∧ h.2.2 a = some (oC c [.int nu, .int wt]) ∧ a ≠ 0 ∧ (c = 9 ∨ c = 0 ∨ c = 4) ∧ T k = tkC c wt
def aT (T : Nat → Int32) (hung : Int32) : Nat → Int32 := fun k => T k + if nI k = hung then 1 else 0
theorem x_arr_loop {wa : Nat} {g : Nat → Option Nat} {T : Nat → Int32} (ho : h.2.2 o = some (oC 6 [.ref tk, .ref od])) (h0 : o ≠ 0) (ht0 : tk ≠ 0) (ht : h.2.2 tk = some (iC 8 ft)) (hwa : h.2.2 wa = some (rC 2 8 g)) (hw0 : wa ≠ 0) (hg : WkAt h g T) (d1 : o ≠ tk) (d2 : wa ≠ tk) (law hung : Int32) : ∀ (d s : Nat) (v : Value), s + d = 8 → tw_b 30 3 [.ref o, .ref wa, .int law, .int hung, .int (nI s), v] [] (tw_set h tk (iC 8 (fset ft (aT T hung) s))) = tw_b 30 69 [.ref o, .ref wa, .int law, .int hung, .int (nI 8), (if d = 0 then v else tw_rf (g 7))] [] (tw_set h tk (iC 8 (fset ft (aT T hung) 8))) := by
  intro d
  induction d with
  | zero =>
    intro s v hd
    have e : ¬ nI s < nI 8 := nI_nlt (by omega) (by omega)
    have hs : s = 8 := by omega
    rw [s30_3]
    simp [s30_5, s30_6, s30_9, s30_10, tw_gf, tw_al, tw_sg, ho, h0, d1, tw_nI, e]
    rw [hs]
  | succ d ih =>
    intro s v hd
    have e : nI s < nI 8 := nI_lt (by omega) (by omega)
    have ev := tw_vi_n (show s < 8 by omega) (by decide)
    have ec := nI_clamp (show s < 2 ^ 31 by omega)
    have ef := fset_s ft (aT T hung) s
    have last : (if d = 0 then tw_rf (g s) else tw_rf (g 7)) = tw_rf (g 7) := by
      by_cases hd0 : d = 0
      · rw [if_pos hd0, show s = 7 by omega]
      · rw [if_neg hd0]
    rw [s30_3]
    rcases hg s (by omega) with ⟨g1, g2⟩ | ⟨a, c, nu, wt, g1, g2, g3, g4, g5⟩
    · have ih' := ih (s + 1) (tw_rf (g s)) (by omega)
      rw [last] at ih'
      rw [g1, show tw_rf none = Value.null from rfl] at ih'
      by_cases q : nI s = hung
      · have ea : aT T hung s = 1 := by simp [aT, g2, q]
        rw [ea] at ef
        simp [s30_0, s30_1, s30_5, s30_6, s30_9, s30_10, s30_13, s30_15, s30_15n, s30_16, s30_17, s30_20, s30_20n, s30_21, s30_23, s30_24, s30_27, s30_28, s30_28n, s30_30, s30_31, s30_34, s30_36, s30_36n, s30_38, s30_38n, s30_41, s30_42, s30_45, s30_45n, s30_47c9, s30_47c0, s30_47c4, s30_50, s30_52, s30_53, s30_56, s30_57, s30_60, s30_61, s30_62, s30_63, s30_66, s30_71, s30_74, s30_75, s30_76, s30_78, s30_79, s30_81, s30_83, s30_84, s30_87, s30_88, s30_91, s30_92, s30_95, s30_97, s30_98, s30_100, s30_101, s30_104, s30_105, s30_107, s30_108, s30_111, s30_113, s30_114, s30_117, s30_118, s30_119, s30_120, s30_122, s30_125, s30_128, tw_gf, tw_al, tw_aa, tw_ix, tw_sg, ho, h0, ht0, hwa, hw0, d1, d2, tw_nI, e, ev, ec, g1, tw_rf, eq_true q, ef, nI_1, tw_ss, ih']
      · have ea : aT T hung s = 0 := by simp [aT, g2, q]
        rw [ea] at ef
        simp [s30_0, s30_1, s30_5, s30_6, s30_9, s30_10, s30_13, s30_15, s30_15n, s30_16, s30_17, s30_20, s30_20n, s30_21, s30_23, s30_24, s30_27, s30_28, s30_28n, s30_30, s30_31, s30_34, s30_36, s30_36n, s30_38, s30_38n, s30_41, s30_42, s30_45, s30_45n, s30_47c9, s30_47c0, s30_47c4, s30_50, s30_52, s30_53, s30_56, s30_57, s30_60, s30_61, s30_62, s30_63, s30_66, s30_71, s30_74, s30_75, s30_76, s30_78, s30_79, s30_81, s30_83, s30_84, s30_87, s30_88, s30_91, s30_92, s30_95, s30_97, s30_98, s30_100, s30_101, s30_104, s30_105, s30_107, s30_108, s30_111, s30_113, s30_114, s30_117, s30_118, s30_119, s30_120, s30_122, s30_125, s30_128, tw_gf, tw_al, tw_aa, tw_ix, tw_sg, ho, h0, ht0, hwa, hw0, d1, d2, tw_nI, e, ev, ec, g1, tw_rf, eq_false q, ef, nI_1, tw_ss, ih']
    · have ih' := ih (s + 1) (tw_rf (g s)) (by omega)
      rw [last] at ih'
      rw [g1, show tw_rf (some a) = Value.ref a from rfl] at ih'
      have dat : a ≠ tk := fun z => by rw [z, ht] at g2; cases g2
      obtain ⟨H, hH⟩ : ∃ H, H = tw_set h tk (iC 8 (fset ft (aT T hung) s)) := ⟨_, rfl⟩
      have gH : H.2.2 a = some (oC c [.int nu, .int wt]) := by rw [hH, tw_sg, if_neg dat]; exact g2
      have gO : H.2.2 o = some (oC 6 [.ref tk, .ref od]) := by rw [hH, tw_sg, if_neg d1]; exact ho
      have gW : H.2.2 wa = some (rC 2 8 g) := by rw [hH, tw_sg, if_neg d2]; exact hwa
      have gT : H.2.2 tk = some (iC 8 (fset ft (aT T hung) s)) := by rw [hH, tw_sg, if_pos rfl]
      have hco : tw_co H a = some c := by simp [tw_co, gH, g3]
      have hss : ∀ x, tw_set H tk x = tw_set h tk x := fun x => by rw [hH, tw_ss]
      rw [← hH]
      by_cases q : nI s = hung
      · have ea : aT T hung s = tkC c wt + 1 := by simp [aT, g5, q]
        rw [ea] at ef
        rcases g4 with rfl | rfl | rfl
        · rw [show tkC 9 wt = wt from rfl] at ef
          simp [s30_0, s30_1, s30_5, s30_6, s30_9, s30_10, s30_13, s30_15, s30_15n, s30_16, s30_17, s30_20, s30_20n, s30_21, s30_23, s30_24, s30_27, s30_28, s30_28n, s30_30, s30_31, s30_34, s30_36, s30_36n, s30_38, s30_38n, s30_41, s30_42, s30_45, s30_45n, s30_47c9, s30_47c0, s30_47c4, s30_50, s30_52, s30_53, s30_56, s30_57, s30_60, s30_61, s30_62, s30_63, s30_66, s30_71, s30_74, s30_75, s30_76, s30_78, s30_79, s30_81, s30_83, s30_84, s30_87, s30_88, s30_91, s30_92, s30_95, s30_97, s30_98, s30_100, s30_101, s30_104, s30_105, s30_107, s30_108, s30_111, s30_113, s30_114, s30_117, s30_118, s30_119, s30_120, s30_122, s30_125, s30_128, tw_gf, tw_al, tw_aa, tw_ix, gO, gW, gT, h0, ht0, hw0, tw_nI, e, ev, ec, g1, tw_rf, eq_true q, ef, nI_1, hss, hco, x_takesW gH g3 (Or.inl rfl), ih']
        · rw [show tkC 0 wt = wt + 1 from rfl] at ef
          simp [s30_0, s30_1, s30_5, s30_6, s30_9, s30_10, s30_13, s30_15, s30_15n, s30_16, s30_17, s30_20, s30_20n, s30_21, s30_23, s30_24, s30_27, s30_28, s30_28n, s30_30, s30_31, s30_34, s30_36, s30_36n, s30_38, s30_38n, s30_41, s30_42, s30_45, s30_45n, s30_47c9, s30_47c0, s30_47c4, s30_50, s30_52, s30_53, s30_56, s30_57, s30_60, s30_61, s30_62, s30_63, s30_66, s30_71, s30_74, s30_75, s30_76, s30_78, s30_79, s30_81, s30_83, s30_84, s30_87, s30_88, s30_91, s30_92, s30_95, s30_97, s30_98, s30_100, s30_101, s30_104, s30_105, s30_107, s30_108, s30_111, s30_113, s30_114, s30_117, s30_118, s30_119, s30_120, s30_122, s30_125, s30_128, tw_gf, tw_al, tw_aa, tw_ix, gO, gW, gT, h0, ht0, hw0, tw_nI, e, ev, ec, g1, tw_rf, eq_true q, ef, nI_1, hss, hco, x_takesB gH g3 (Or.inl rfl), ih']
        · rw [show tkC 4 wt = 2 * (wt + 1) from rfl] at ef
          simp [s30_0, s30_1, s30_5, s30_6, s30_9, s30_10, s30_13, s30_15, s30_15n, s30_16, s30_17, s30_20, s30_20n, s30_21, s30_23, s30_24, s30_27, s30_28, s30_28n, s30_30, s30_31, s30_34, s30_36, s30_36n, s30_38, s30_38n, s30_41, s30_42, s30_45, s30_45n, s30_47c9, s30_47c0, s30_47c4, s30_50, s30_52, s30_53, s30_56, s30_57, s30_60, s30_61, s30_62, s30_63, s30_66, s30_71, s30_74, s30_75, s30_76, s30_78, s30_79, s30_81, s30_83, s30_84, s30_87, s30_88, s30_91, s30_92, s30_95, s30_97, s30_98, s30_100, s30_101, s30_104, s30_105, s30_107, s30_108, s30_111, s30_113, s30_114, s30_117, s30_118, s30_119, s30_120, s30_122, s30_125, s30_128, tw_gf, tw_al, tw_aa, tw_ix, gO, gW, gT, h0, ht0, hw0, tw_nI, e, ev, ec, g1, tw_rf, eq_true q, ef, nI_1, hss, hco, x_takesS gH g3, ih']
      · have ea : aT T hung s = tkC c wt := by simp [aT, g5, q]
        rw [ea] at ef
        rcases g4 with rfl | rfl | rfl
        · rw [show tkC 9 wt = wt from rfl] at ef
          simp [s30_0, s30_1, s30_5, s30_6, s30_9, s30_10, s30_13, s30_15, s30_15n, s30_16, s30_17, s30_20, s30_20n, s30_21, s30_23, s30_24, s30_27, s30_28, s30_28n, s30_30, s30_31, s30_34, s30_36, s30_36n, s30_38, s30_38n, s30_41, s30_42, s30_45, s30_45n, s30_47c9, s30_47c0, s30_47c4, s30_50, s30_52, s30_53, s30_56, s30_57, s30_60, s30_61, s30_62, s30_63, s30_66, s30_71, s30_74, s30_75, s30_76, s30_78, s30_79, s30_81, s30_83, s30_84, s30_87, s30_88, s30_91, s30_92, s30_95, s30_97, s30_98, s30_100, s30_101, s30_104, s30_105, s30_107, s30_108, s30_111, s30_113, s30_114, s30_117, s30_118, s30_119, s30_120, s30_122, s30_125, s30_128, tw_gf, tw_al, tw_aa, tw_ix, gO, gW, gT, h0, ht0, hw0, tw_nI, e, ev, ec, g1, tw_rf, eq_false q, ef, nI_1, hss, hco, x_takesW gH g3 (Or.inl rfl), ih']
        · rw [show tkC 0 wt = wt + 1 from rfl] at ef
          simp [s30_0, s30_1, s30_5, s30_6, s30_9, s30_10, s30_13, s30_15, s30_15n, s30_16, s30_17, s30_20, s30_20n, s30_21, s30_23, s30_24, s30_27, s30_28, s30_28n, s30_30, s30_31, s30_34, s30_36, s30_36n, s30_38, s30_38n, s30_41, s30_42, s30_45, s30_45n, s30_47c9, s30_47c0, s30_47c4, s30_50, s30_52, s30_53, s30_56, s30_57, s30_60, s30_61, s30_62, s30_63, s30_66, s30_71, s30_74, s30_75, s30_76, s30_78, s30_79, s30_81, s30_83, s30_84, s30_87, s30_88, s30_91, s30_92, s30_95, s30_97, s30_98, s30_100, s30_101, s30_104, s30_105, s30_107, s30_108, s30_111, s30_113, s30_114, s30_117, s30_118, s30_119, s30_120, s30_122, s30_125, s30_128, tw_gf, tw_al, tw_aa, tw_ix, gO, gW, gT, h0, ht0, hw0, tw_nI, e, ev, ec, g1, tw_rf, eq_false q, ef, nI_1, hss, hco, x_takesB gH g3 (Or.inl rfl), ih']
        · rw [show tkC 4 wt = 2 * (wt + 1) from rfl] at ef
          simp [s30_0, s30_1, s30_5, s30_6, s30_9, s30_10, s30_13, s30_15, s30_15n, s30_16, s30_17, s30_20, s30_20n, s30_21, s30_23, s30_24, s30_27, s30_28, s30_28n, s30_30, s30_31, s30_34, s30_36, s30_36n, s30_38, s30_38n, s30_41, s30_42, s30_45, s30_45n, s30_47c9, s30_47c0, s30_47c4, s30_50, s30_52, s30_53, s30_56, s30_57, s30_60, s30_61, s30_62, s30_63, s30_66, s30_71, s30_74, s30_75, s30_76, s30_78, s30_79, s30_81, s30_83, s30_84, s30_87, s30_88, s30_91, s30_92, s30_95, s30_97, s30_98, s30_100, s30_101, s30_104, s30_105, s30_107, s30_108, s30_111, s30_113, s30_114, s30_117, s30_118, s30_119, s30_120, s30_122, s30_125, s30_128, tw_gf, tw_al, tw_aa, tw_ix, gO, gW, gT, h0, ht0, hw0, tw_nI, e, ev, ec, g1, tw_rf, eq_false q, ef, nI_1, hss, hco, x_takesS gH g3, ih']
def orS (ft : Nat → Int32) (law : Int32) : Nat → Nat → Int32 → (Nat → Int32) → (Nat → Int32)
  | _, 0, _, fo => fo
  | p, d + 1, w, fo => orS ft law (p + 1) d (w &&& (bitI (frF ft w law) ^^^ -1)) (upd fo p (frF ft w law))
theorem x_ord_loop {wa : Nat} (ho : h.2.2 o = some (oC 6 [.ref tk, .ref od])) (h0 : o ≠ 0) (ht : h.2.2 tk = some (iC 8 ft)) (ho0 : od ≠ 0) (d1 : o ≠ od) (d2 : tk ≠ od) (law hung : Int32) : ∀ (d p : Nat) (w : Int32) (fo : Nat → Int32), p + d = 8 → tw_b 30 81 [.ref o, .ref wa, .int law, .int hung, .int w, .int (nI p)] [] (tw_set h od (iC 8 fo)) = some (none, tw_set h od (iC 8 (orS ft law p d w fo))) := by
  intro d
  induction d with
  | zero =>
    intro p w fo hd
    have e : ¬ nI p < nI 8 := nI_nlt (by omega) (by omega)
    rw [s30_81]
    simp [s30_0, s30_1, s30_3, s30_5, s30_6, s30_9, s30_10, s30_13, s30_15, s30_15n, s30_16, s30_17, s30_20, s30_20n, s30_21, s30_23, s30_24, s30_27, s30_28, s30_28n, s30_30, s30_31, s30_34, s30_36, s30_36n, s30_38, s30_38n, s30_41, s30_42, s30_45, s30_45n, s30_47c9, s30_47c0, s30_47c4, s30_50, s30_52, s30_53, s30_56, s30_57, s30_60, s30_61, s30_62, s30_63, s30_66, s30_69, s30_71, s30_74, s30_75, s30_76, s30_78, s30_79, s30_83, s30_84, s30_87, s30_88, s30_91, s30_92, s30_95, s30_97, s30_98, s30_100, s30_101, s30_104, s30_105, s30_107, s30_108, s30_111, s30_113, s30_114, s30_117, s30_118, s30_119, s30_120, s30_122, s30_125, s30_128, tw_gf, tw_al, tw_sg, ho, h0, d1, tw_nI, e, orS]
  | succ d ih =>
    intro p w fo hd
    have e : nI p < nI 8 := nI_lt (by omega) (by omega)
    have ev := tw_vi_n (show p < 8 by omega) (by decide)
    have ec := nI_clamp (show p < 2 ^ 31 by omega)
    have gO : (tw_set h od (iC 8 fo)).2.2 o = some (oC 6 [.ref tk, .ref od]) := by rw [tw_sg, if_neg d1]; exact ho
    have gT : (tw_set h od (iC 8 fo)).2.2 tk = some (iC 8 ft) := by rw [tw_sg, if_neg d2]; exact ht
    have hco : tw_co (tw_set h od (iC 8 fo)) o = some 6 := by simp [tw_co, gO, h0]
    have hu : ∀ (f : Nat → Int32) (k : Nat) (x : Int32), upd f k x k = x := fun f k x => by simp [upd]
    rw [s30_81]
    simp [s30_0, s30_1, s30_3, s30_5, s30_6, s30_9, s30_10, s30_13, s30_15, s30_15n, s30_16, s30_17, s30_20, s30_20n, s30_21, s30_23, s30_24, s30_27, s30_28, s30_28n, s30_30, s30_31, s30_34, s30_36, s30_36n, s30_38, s30_38n, s30_41, s30_42, s30_45, s30_45n, s30_47c9, s30_47c0, s30_47c4, s30_50, s30_52, s30_53, s30_56, s30_57, s30_60, s30_61, s30_62, s30_63, s30_66, s30_69, s30_71, s30_74, s30_75, s30_76, s30_78, s30_79, s30_83, s30_84, s30_87, s30_88, s30_91, s30_92, s30_95, s30_97, s30_98, s30_100, s30_101, s30_104, s30_105, s30_107, s30_108, s30_111, s30_113, s30_114, s30_117, s30_118, s30_119, s30_120, s30_122, s30_125, s30_128, tw_gf, tw_al, tw_ia, tw_ix, tw_sg, ho, ho0, h0, d1, d2, tw_nI, e, ev, ec, hu, x_bit, x_first gO h0 gT, hco, nI_1, tw_ss, ih (p + 1) _ _ (show p + 1 + d = 8 by omega), orS]
/-- the order in which works stop -/
def orF (ft : Nat → Int32) (law : Int32) (fo : Nat → Int32) : Nat → Int32 := orS ft law 0 8 255 fo
theorem x_arrange {wa : Nat} {g : Nat → Option Nat} {T : Nat → Int32} (ho : h.2.2 o = some (oC 6 [.ref tk, .ref od])) (h0 : o ≠ 0) (ht0 : tk ≠ 0) (ho0 : od ≠ 0) (ht : h.2.2 tk = some (iC 8 ft)) (hod : h.2.2 od = some (iC 8 fo)) (hwa : h.2.2 wa = some (rC 2 8 g)) (hw0 : wa ≠ 0) (hg : WkAt h g T) (d1 : o ≠ tk) (d2 : wa ≠ tk) (d3 : o ≠ od) (d4 : tk ≠ od) (law hung : Int32) : tw_b 30 0 [.ref o, .ref wa, .int law, .int hung, tw_un, tw_un] [] h = some (none, tw_set (tw_set h tk (iC 8 (fset ft (aT T hung) 8))) od (iC 8 (orF (fset ft (aT T hung) 8) law fo))) := by
  have hq := x_arr_loop ho h0 ht0 ht hwa hw0 hg d1 d2 law hung 8 0 tw_un (by omega)
  rw [nI_0, fset_0, tw_si h ht, if_neg (by omega)] at hq
  obtain ⟨H, hH⟩ : ∃ H, H = tw_set h tk (iC 8 (fset ft (aT T hung) 8)) := ⟨_, rfl⟩
  rw [← hH] at hq ⊢
  have gO : H.2.2 o = some (oC 6 [.ref tk, .ref od]) := by rw [hH, tw_sg, if_neg d1]; exact ho
  have gT : H.2.2 tk = some (iC 8 (fset ft (aT T hung) 8)) := by rw [hH, tw_sg, if_pos rfl]
  have gD : H.2.2 od = some (iC 8 fo) := by rw [hH, tw_sg, if_neg (Ne.symm d4)]; exact hod
  have hl := x_ord_loop (wa := wa) gO h0 gT ho0 d3 d4 law hung 8 0 255 fo (by omega)
  rw [nI_0, tw_si H gD] at hl
  have hb : bitI 8 - 1 = 255 := by decide
  simp only [s30_0, s30_1, hq, s30_69, s30_71, x_bit, Option.bind_some, Option.bind_none, Option.toList_some, Option.toList_none, List.cons_append, List.nil_append, s30_74, s30_75, hb, s30_78, s30_79]
  cases hg7 : g 7 with
  | none => simp only [tw_rf, s30_69, s30_71, x_bit, Option.bind_some, Option.bind_none, Option.toList_some, Option.toList_none, List.cons_append, List.nil_append, s30_74, s30_75, hb, s30_76, s30_78, s30_79, hl, orF]
  | some a => simp only [tw_rf, s30_69, s30_71, x_bit, Option.bind_some, Option.bind_none, Option.toList_some, Option.toList_none, List.cons_append, List.nil_append, s30_74, s30_75, hb, s30_76, s30_78, s30_79, hl, orF]
end XO
