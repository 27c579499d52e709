/-! a new town: the class -/
def clsK (kd : Int32) : Nat := if kd = 0 then 9 else if kd = 1 then 0 else 4
theorem tw_sn (h : tw_H) (e e' : tw_C) (n : Nat) : tw_set (tw_new h e n) h.1 e' = tw_new h e' n := by
  unfold tw_set tw_new
  refine Prod.ext rfl (Prod.ext rfl ?_)
  funext j
  by_cases hj : j = h.1 <;> simp [hj]
theorem x_winit {h : tw_H} {a c : Nat} {x y : Value} (ha : h.2.2 a = some (oC c [x, y])) (h0 : a ≠ 0) (hc : c = 9 ∨ c = 0 ∨ c = 4) (nu wt : Int32) : tw_b 26 0 [.ref a, .int nu, .int wt] [] h = some (none, tw_set h a (oC c [.int nu, .int wt])) := by
  have : c = 0 ∨ c = 4 ∨ c = 9 := by omega
  simp [s26_0, s26_1, s26_4, s26_5, s26_6, s26_9, s26_10, s26_11, s26_14, h0, tw_sf, ha, this, tw_fit, tw_sg, tw_ss]
theorem x_made {h : tw_H} (h0 : h.1 ≠ 0) {kd : Int32} (hk : kd = 0 ∨ kd = 1 ∨ kd = 2) (nu wt : Int32) : tw_b 23 0 [.int nu, .int kd, .int wt] [] h = some (some (.ref h.1), tw_new h (oC (clsK kd) [.int nu, .int wt]) 2) := by
  have gn : ∀ c, (tw_new h (oC c [.int 0, .int 0]) 2).2.2 h.1 = some (oC c [.int 0, .int 0]) := fun c => by rw [tw_ng, if_pos rfl]
  rcases hk with rfl | rfl | rfl
  · have e := x_winit (gn 9) h0 (Or.inl rfl) nu wt
    rw [tw_sn] at e
    simp [s23_0, s23_1, s23_28, s23_31, s23_32, s23_33, s23_34, s23_37, s23_38, s23_41, s23_42, s23_43, s23_44, s23_47, s23_48, s23_51, s23_52, s23_53, s23_54, s23_57, h0, e, clsK]
  · have e := x_winit (gn 0) h0 (Or.inr (Or.inl rfl)) nu wt
    rw [tw_sn] at e
    simp [s23_0, s23_1, s23_28, s23_31, s23_32, s23_33, s23_34, s23_37, s23_38, s23_41, s23_42, s23_43, s23_44, s23_47, s23_48, s23_51, s23_52, s23_53, s23_54, s23_57, s25_0, s25_1, s25_2, s25_3, s25_6, h0, e, clsK]
  · have e := x_winit (gn 4) h0 (Or.inr (Or.inr rfl)) nu wt
    rw [tw_sn] at e
    simp [s23_0, s23_1, s23_28, s23_31, s23_32, s23_33, s23_34, s23_37, s23_38, s23_41, s23_42, s23_43, s23_44, s23_47, s23_48, s23_51, s23_52, s23_53, s23_54, s23_57, s24_0, s24_1, s24_2, s24_3, s24_6, s25_0, s25_1, s25_2, s25_3, s25_6, h0, e, clsK]
def MkW (H H' : tw_H) (s nw : Nat) (kd wt : Nat → Int32) (g : Nat → Option Nat) : Prop := H'.2.2 18 = some (rC 2 8 g) ∧ (∀ k, k < s → (k < nw ∧ ∃ a, g k = some a ∧ H.1 ≤ a ∧ a < H'.1 ∧ H'.2.2 a = some (oC (clsK (kd k)) [.int (nI k), .int (wt k)])) ∨ (¬ k < nw ∧ g k = none)) ∧ (∀ a, a < H.1 → a ≠ 18 → H'.2.2 a = H.2.2 a) ∧ H.1 ≤ H'.1 ∧ H'.1 ≤ H.1 + s ∧ H'.2.1 ≤ H.2.1 + 2 * s
theorem clsK_or (kd : Int32) : clsK kd = 9 ∨ clsK kd = 0 ∨ clsK kd = 4 := by
  unfold clsK
  by_cases q : kd = 0
  · simp [q]
  · by_cases q2 : kd = 1
    · simp [q2]
    · simp [q, q2]
section T6
variable {H : tw_H} {wc hk lw st fl tc ti pl fr si : Int32} {b nw : Nat} {tf sw sh sa A kd wt : Nat → Int32} {ns : Nat}
theorem x_make_loop (h44 : 44 ≤ H.1) (hX : H.2.2 1 = some (xC (nI nw) hk lw st fl)) (h3 : H.2.2 3 = some (tC ti (nI nw) pl b fr si)) (h5 : H.2.2 5 = some (iC 8 kd)) (h6 : H.2.2 6 = some (iC 8 wt)) (h8 : nw ≤ 8) (hkd : ∀ j, j < nw → kd j = 0 ∨ kd j = 1 ∨ kd j = 2) : ∀ (d s : Nat) (H' : tw_H) (g : Nat → Option Nat), s + d = 8 → MkW H H' s nw kd wt g → ∃ H'' g', MkW H H'' 8 nw kd wt g' ∧ tw_b 22 13 [.ref 1, .int (nI s)] [] H' = tw_b 22 72 [.ref 1, .int (nI 8)] [] H'' := by
  intro d
  induction d with
  | zero =>
    intro s H' g hd hm
    have e1 : ¬ nI s < nI 8 := nI_nlt (by omega) (by omega)
    have e8 : s = 8 := by omega
    subst e8
    have gX : H'.2.2 1 = some (xC (nI nw) hk lw st fl) := by rw [hm.2.2.1 1 (by omega) (by decide)]; exact hX
    refine ⟨H', g, hm, ?_⟩
    rw [s22_13]
    simp [s22_0, s22_1, s22_2, s22_5, s22_8, s22_11, s22_12, s22_14, s22_15, s22_18, s22_19, s22_22, s22_23, s22_26, s22_27, s22_28, s22_29, s22_32, s22_35, s22_36, s22_37, s22_40, s22_43, s22_44, s22_47, s22_48, s22_51, s22_54, s22_55, s22_58, s22_61, s22_64, s22_65, s22_66, s22_69, s22_73, s22_76, s22_77, s22_80, s22_83, s22_84, s22_87, s22_90, s22_93, s22_94, s22_97, s22_100, s22_101, s22_102, s22_105, s22_108, s22_109, s22_110, s22_113, s22_114, s22_115, s22_118, s22_119, s22_120, s22_123, s22_124, s22_127, s22_128, s22_131, s22_132, s22_135, s22_136, s22_139, tw_gf, tw_al, gX, hm.1, tw_nI, e1]
  | succ d ih =>
    intro s H' g hd hm
    have e1 : nI s < nI 8 := nI_lt (by omega) (by omega)
    have ev := tw_vi_n (show s < 8 by omega) (by decide)
    have ec := nI_clamp (show s < 2 ^ 31 by omega)
    obtain ⟨m1, m2, m3, m4, m5, m6⟩ := hm
    have gX : H'.2.2 1 = some (xC (nI nw) hk lw st fl) := by rw [m3 1 (by omega) (by decide)]; exact hX
    have g3 : H'.2.2 3 = some (tC ti (nI nw) pl b fr si) := by rw [m3 3 (by omega) (by decide)]; exact h3
    have g5 : H'.2.2 5 = some (iC 8 kd) := by rw [m3 5 (by omega) (by decide)]; exact h5
    have g6 : H'.2.2 6 = some (iC 8 wt) := by rw [m3 6 (by omega) (by decide)]; exact h6
    by_cases q : s < nw
    · have e2 : nI s < nI nw := nI_lt q (by omega)
      have ea := x_at (nI s) g5 (by decide)
      have eb := x_at (nI s) g6 (by decide)
      rw [atF_n (by omega) (by decide)] at ea eb
      have em := x_made (h := H') (by omega) (hkd s q) (nI s) (wt s)
      obtain ⟨H1, hH1⟩ : ∃ H1, H1 = tw_set (tw_new H' (oC (clsK (kd s)) [.int (nI s), .int (wt s)]) 2) 18 (rC 2 8 (va_up g s (some H'.1))) := ⟨_, rfl⟩
      have hst : tw_ax (tw_new H' (oC (clsK (kd s)) [.int (nI s), .int (wt s)]) 2) 18 (nI s) (.ref H'.1) = some H1 := by
        have hor := clsK_or (kd s)
        have h18 : ¬ 18 = H'.1 := by omega
        have h0 : H'.1 ≠ 0 := by omega
        rw [hH1]
        simp only [tw_ax, tw_el, tw_ng, if_neg h18, m1, ev, ec, if_true]
        simp [h0, hor]
      have hm1 : MkW H H1 (s + 1) nw kd wt (va_up g s (some H'.1)) := by
        refine ⟨by rw [hH1, tw_sg, if_pos rfl], fun k hk' => ?_, fun a ha h18 => ?_, ?_, ?_, ?_⟩
        · by_cases z : k = s
          · subst z
            refine Or.inl ⟨q, H'.1, by simp [va_up], m4, ?_, ?_⟩
            · rw [hH1, tw_sg1, tw_ng1]; omega
            · rw [hH1, tw_sg, if_neg (by omega), tw_ng, if_pos rfl]
          · rcases m2 k (by omega) with ⟨y1, a, y2, y3, y4, y5⟩ | ⟨y1, y2⟩
            · refine Or.inl ⟨y1, a, by simp [va_up, z, y2], y3, ?_, ?_⟩
              · rw [hH1, tw_sg1, tw_ng1]; omega
              · rw [hH1, tw_sg, if_neg (by omega), tw_ng, if_neg (by omega)]; exact y5
            · exact Or.inr ⟨y1, by simp [va_up, z, y2]⟩
        · rw [hH1, tw_sg, if_neg h18, tw_ng, if_neg (by omega)]; exact m3 a ha h18
        · rw [hH1, tw_sg1, tw_ng1]; omega
        · rw [hH1, tw_sg1, tw_ng1]; omega
        · rw [hH1, tw_sg2, tw_ng2]; omega
      obtain ⟨H'', g', k1, k2⟩ := ih (s + 1) H1 _ (by omega) hm1
      refine ⟨H'', g', k1, ?_⟩
      rw [← k2, s22_13]
      simp [s22_0, s22_1, s22_2, s22_5, s22_8, s22_11, s22_12, s22_14, s22_15, s22_18, s22_19, s22_22, s22_23, s22_26, s22_27, s22_28, s22_29, s22_32, s22_35, s22_36, s22_37, s22_40, s22_43, s22_44, s22_47, s22_48, s22_51, s22_54, s22_55, s22_58, s22_61, s22_64, s22_65, s22_66, s22_69, s22_73, s22_76, s22_77, s22_80, s22_83, s22_84, s22_87, s22_90, s22_93, s22_94, s22_97, s22_100, s22_101, s22_102, s22_105, s22_108, s22_109, s22_110, s22_113, s22_114, s22_115, s22_118, s22_119, s22_120, s22_123, s22_124, s22_127, s22_128, s22_131, s22_132, s22_135, s22_136, s22_139, tw_gf, tw_al, gX, g3, m1, tw_nI, e1, e2, ea, eb, em, hst, nI_1]
    · have e2 : ¬ nI s < nI nw := nI_nlt (by omega) (by omega)
      obtain ⟨H1, hH1⟩ : ∃ H1, H1 = tw_set H' 18 (rC 2 8 (va_up g s none)) := ⟨_, rfl⟩
      have hst : tw_ax H' 18 (nI s) .null = some H1 := by
        rw [hH1]
        simp only [tw_ax, tw_el, m1, ev, ec]
        simp
      have hm1 : MkW H H1 (s + 1) nw kd wt (va_up g s none) := by
        refine ⟨by rw [hH1, tw_sg, if_pos rfl], fun k hk' => ?_, fun a ha h18 => ?_, ?_, ?_, ?_⟩
        · by_cases z : k = s
          · subst z
            exact Or.inr ⟨q, by simp [va_up]⟩
          · rcases m2 k (by omega) with ⟨y1, a, y2, y3, y4, y5⟩ | ⟨y1, y2⟩
            · refine Or.inl ⟨y1, a, by simp [va_up, z, y2], y3, ?_, ?_⟩
              · rw [hH1, tw_sg1]; omega
              · rw [hH1, tw_sg, if_neg (by omega)]; exact y5
            · exact Or.inr ⟨y1, by simp [va_up, z, y2]⟩
        · rw [hH1, tw_sg, if_neg h18]; exact m3 a ha h18
        · rw [hH1, tw_sg1]; omega
        · rw [hH1, tw_sg1]; omega
        · rw [hH1, tw_sg2]; omega
      obtain ⟨H'', g', k1, k2⟩ := ih (s + 1) H1 _ (by omega) hm1
      refine ⟨H'', g', k1, ?_⟩
      rw [← k2, s22_13]
      simp [s22_0, s22_1, s22_2, s22_5, s22_8, s22_11, s22_12, s22_14, s22_15, s22_18, s22_19, s22_22, s22_23, s22_26, s22_27, s22_28, s22_29, s22_32, s22_35, s22_36, s22_37, s22_40, s22_43, s22_44, s22_47, s22_48, s22_51, s22_54, s22_55, s22_58, s22_61, s22_64, s22_65, s22_66, s22_69, s22_73, s22_76, s22_77, s22_80, s22_83, s22_84, s22_87, s22_90, s22_93, s22_94, s22_97, s22_100, s22_101, s22_102, s22_105, s22_108, s22_109, s22_110, s22_113, s22_114, s22_115, s22_118, s22_119, s22_120, s22_123, s22_124, s22_127, s22_128, s22_131, s22_132, s22_135, s22_136, s22_139, tw_gf, tw_al, gX, m1, tw_nI, e1, e2, hst, nI_1]
theorem x_rise_loop (hS : XS H tc tf ns sw sh sa) (h4 : H.2.2 4 = some (iC 6 A)) (c : Int32) : ∀ (d s : Nat), s + d = 6 → tw_b 27 2 [.ref 8, .ref 4, .int c, .int (nI s)] [] (tw_set H 13 (iC 6 (fset tf A s))) = some (none, tw_set (tw_set (tw_set H 13 (iC 6 (fset tf A 6))) 8 (oC 5 [.ref 9, .int c, .ref 13])) 9 (oC 2 [.int 0, .ref 10, .ref 11, .ref 12])) := by
  intro d
  induction d with
  | zero =>
    intro s hd
    have e1 : ¬ nI s < nI 6 := nI_nlt (by omega) (by omega)
    have e6 : s = 6 := by omega
    subst e6
    have gS : (tw_set (tw_set H 13 (iC 6 (fset tf A 6))) 8 (oC 5 [.ref 9, .int c, .ref 13])).2.2 9 = some (oC 2 [.int (nI ns), .ref 10, .ref 11, .ref 12]) := by
      rw [tw_sg, if_neg (by decide), tw_sg, if_neg (by decide)]; exact hS.2.2.1
    have ef := x_nforget gS (by decide)
    have hco : tw_co (tw_set (tw_set H 13 (iC 6 (fset tf A 6))) 8 (oC 5 [.ref 9, .int c, .ref 13])) 9 = some 2 := by simp [tw_co, gS]
    rw [s27_2]
    simp [s27_0, s27_1, s27_3, s27_4, s27_7, s27_8, s27_11, s27_12, s27_15, s27_16, s27_16n, s27_17, s27_18, s27_18n, s27_21, s27_22, s27_25, s27_28, s27_29, s27_30, s27_33, s27_34, s27_37, s27_40, tw_gf, tw_sf, tw_al, tw_sg, hS.1, tw_nI, e1, tw_fit, hco, ef]
  | succ d ih =>
    intro s hd
    have e1 : nI s < nI 6 := nI_lt (by omega) (by omega)
    have ev := tw_vi_n (show s < 6 by omega) (by decide)
    have ec := nI_clamp (show s < 2 ^ 31 by omega)
    have g4 : (tw_set H 13 (iC 6 (fset tf A s))).2.2 4 = some (iC 6 A) := by rw [tw_sg, if_neg (by decide)]; exact h4
    have ea := x_at (nI s) g4 (by decide)
    rw [atF_n (by omega) (by decide)] at ea
    have ef := fset_s tf A s
    rw [← ih (s + 1) (by omega), s27_2]
    simp [s27_0, s27_1, s27_3, s27_4, s27_7, s27_8, s27_11, s27_12, s27_15, s27_16, s27_16n, s27_17, s27_18, s27_18n, s27_21, s27_22, s27_25, s27_28, s27_29, s27_30, s27_33, s27_34, s27_37, s27_40, tw_gf, tw_al, tw_ix, tw_sg, hS.1, tw_nI, e1, ea, ev, ec, ef, tw_ss, nI_1]
theorem x_rise (hS : XS H tc tf ns sw sh sa) (h4 : H.2.2 4 = some (iC 6 A)) (c : Int32) : tw_b 27 0 [.ref 8, .ref 4, .int c, tw_un] [] H = some (none, tw_set (tw_set (tw_set H 13 (iC 6 (fset tf A 6))) 8 (oC 5 [.ref 9, .int c, .ref 13])) 9 (oC 2 [.int 0, .ref 10, .ref 11, .ref 12])) := by
  have hl := x_rise_loop hS h4 c 6 0 (by omega)
  rw [nI_0, fset_0, tw_si H hS.2.1] at hl
  simp [s27_0, s27_1, s27_3, s27_4, s27_7, s27_8, s27_11, s27_12, s27_15, s27_16, s27_16n, s27_17, s27_18, s27_18n, s27_21, s27_22, s27_25, s27_28, s27_29, s27_30, s27_33, s27_34, s27_37, s27_40, hl]
end T6
