/-! a new town: the class, on -/
theorem clsK_tk (kd wt : Int32) : tkC (clsK kd) wt = tkK kd wt := by
  unfold clsK tkC tkK
  by_cases q : kd = 0
  · simp [q]
  · by_cases q2 : kd = 1
    · simp [q2]
    · simp [q, q2]
section T7
variable {H : tw_H} {wc hk lw st fl tc pl fr si : Int32} {b nw nt : Nat} {tf sw sh sa A kd wt rw rh ra ft fo : Nat → Int32} {ns nr : Nat} {g0 : Nat → Option Nat}
theorem x_settle (h44 : 44 ≤ H.1) (hX : H.2.2 1 = some (xC wc hk lw st fl)) (h3 : H.2.2 3 = some (tC (nI nt) (nI nw) pl b fr si)) (h4 : H.2.2 4 = some (iC 6 A)) (h5 : H.2.2 5 = some (iC 8 kd)) (h6 : H.2.2 6 = some (iC 8 wt)) (hS : XS H tc tf ns sw sh sa) (hR : XR H nr rw rh ra) (hK : XK H 19 20 21 ft fo) (h18 : H.2.2 18 = some (rC 2 8 g0)) (h8 : nw ≤ 8) (hkd : ∀ j, j < nw → kd j = 0 ∨ kd j = 1 ∨ kd j = 2) : ∃ h' g ft' fo', tw_b 22 0 [.ref 1, tw_un] [] H = some (none, h') ∧ h'.2.2 18 = some (rC 2 8 g) ∧ (∀ k, k < 8 → (k < nw ∧ ∃ a, g k = some a ∧ H.1 ≤ a ∧ a < h'.1 ∧ h'.2.2 a = some (oC (clsK (kd k)) [.int (nI k), .int (wt k)])) ∨ (¬ k < nw ∧ g k = none)) ∧ h'.2.2 1 = some (xC (nI nw) (bitI (nI nw) - 1) 0 0 fl) ∧ XS h' (nI nt) (fset tf A 6) 0 sw sh sa ∧ XR h' 0 rw rh ra ∧ XK h' 19 20 21 ft' fo' ∧ (∀ j, j < 8 → ft' j = aT (TT nw kd wt) (-1) j ∧ fo' j = odZ (aT (TT nw kd wt) (-1)) 0 j) ∧ (∀ a, a < H.1 → a ≠ 1 ∧ a ≠ 8 ∧ a ≠ 9 ∧ a ≠ 13 ∧ a ≠ 14 ∧ a ≠ 18 ∧ a ≠ 20 ∧ a ≠ 21 → h'.2.2 a = H.2.2 a) ∧ H.1 ≤ h'.1 ∧ h'.1 ≤ H.1 + 8 ∧ h'.2.1 ≤ H.2.1 + 16 := by
  obtain ⟨H1, hH1⟩ : ∃ H1, H1 = tw_set H 1 (xC (nI nw) hk lw st fl) := ⟨_, rfl⟩
  have o1 : ∀ a, a ≠ 1 → H1.2.2 a = H.2.2 a := fun a ha => by rw [hH1, tw_sg, if_neg ha]
  have e11 : H1.1 = H.1 := by rw [hH1, tw_sg1]
  have e12 : H1.2.1 = H.2.1 := by rw [hH1, tw_sg2]
  have gX1 : H1.2.2 1 = some (xC (nI nw) hk lw st fl) := by rw [hH1, tw_sg, if_pos rfl]
  obtain ⟨H2, g, hm, hloop⟩ := x_make_loop (H := H1) (by omega) gX1 (by rw [o1 3 (by decide)]; exact h3) (by rw [o1 5 (by decide)]; exact h5) (by rw [o1 6 (by decide)]; exact h6) h8 hkd 8 0 H1 g0 (by omega) ⟨by rw [o1 18 (by decide)]; exact h18, fun k hk => by omega, fun a _ _ => rfl, Nat.le_refl _, by omega, by omega⟩
  obtain ⟨m1, m2, m3, m4, m5, m6⟩ := hm
  rw [nI_0] at hloop
  have o2 : ∀ a, a < H.1 → a ≠ 1 ∧ a ≠ 18 → H2.2.2 a = H.2.2 a := fun a ha hn => by rw [m3 a (by omega) hn.2, o1 a hn.1]
  have gX2 : H2.2.2 1 = some (xC (nI nw) hk lw st fl) := by rw [m3 1 (by omega) (by decide)]; exact gX1
  have g32 : H2.2.2 3 = some (tC (nI nt) (nI nw) pl b fr si) := by rw [o2 3 (by omega) (by decide)]; exact h3
  have g42 : H2.2.2 4 = some (iC 6 A) := by rw [o2 4 (by omega) (by decide)]; exact h4
  have gS2 : XS H2 tc tf ns sw sh sa := by
    unfold XS at hS ⊢
    rw [o2 8 (by omega) (by decide), o2 13 (by omega) (by decide), o2 9 (by omega) (by decide), o2 10 (by omega) (by decide), o2 11 (by omega) (by decide), o2 12 (by omega) (by decide)]
    exact hS
  have gR2 : XR H2 nr rw rh ra := by
    unfold XR at hR ⊢
    rw [o2 14 (by omega) (by decide), o2 15 (by omega) (by decide), o2 16 (by omega) (by decide), o2 17 (by omega) (by decide)]
    exact hR
  have hrise := x_rise gS2 g42 (nI nt)
  obtain ⟨H3, hH3⟩ : ∃ H3, H3 = tw_set (tw_set (tw_set H2 13 (iC 6 (fset tf A 6))) 8 (oC 5 [.ref 9, .int (nI nt), .ref 13])) 9 (oC 2 [.int 0, .ref 10, .ref 11, .ref 12]) := ⟨_, rfl⟩
  rw [← hH3] at hrise
  have o3 : ∀ a, a ≠ 13 ∧ a ≠ 8 ∧ a ≠ 9 → H3.2.2 a = H2.2.2 a := fun a ha => by rw [hH3, tw_sg, if_neg ha.2.2, tw_sg, if_neg ha.2.1, tw_sg, if_neg ha.1]
  have gX3 : H3.2.2 1 = some (xC (nI nw) hk lw st fl) := by rw [o3 1 (by decide)]; exact gX2
  have g143 : H3.2.2 14 = some (oC 2 [.int (nI nr), .ref 15, .ref 16, .ref 17]) := by rw [o3 14 (by decide)]; exact gR2.1
  have hforg := x_nforget g143 (by decide)
  obtain ⟨H4, hH4⟩ : ∃ H4, H4 = tw_set H3 14 (oC 2 [.int 0, .ref 15, .ref 16, .ref 17]) := ⟨_, rfl⟩
  rw [← hH4] at hforg
  have gX4 : H4.2.2 1 = some (xC (nI nw) hk lw st fl) := by rw [hH4, tw_sg, if_neg (by decide)]; exact gX3
  obtain ⟨H5, hH5⟩ : ∃ H5, H5 = tw_set H4 1 (xC (nI nw) (bitI (nI nw) - 1) 0 0 fl) := ⟨_, rfl⟩
  have o5 : ∀ a, a ≠ 1 ∧ a ≠ 13 ∧ a ≠ 8 ∧ a ≠ 9 ∧ a ≠ 14 → H5.2.2 a = H2.2.2 a := fun a ha => by rw [hH5, tw_sg, if_neg ha.1, hH4, tw_sg, if_neg ha.2.2.2.2, o3 a ⟨ha.2.1, ha.2.2.1, ha.2.2.2.1⟩]
  have gX5 : H5.2.2 1 = some (xC (nI nw) (bitI (nI nw) - 1) 0 0 fl) := by rw [hH5, tw_sg, if_pos rfl]
  have g195 : H5.2.2 19 = some (oC 6 [.ref 20, .ref 21]) := by rw [o5 19 (by decide), o2 19 (by omega) (by decide)]; exact hK.1
  have g205 : H5.2.2 20 = some (iC 8 ft) := by rw [o5 20 (by decide), o2 20 (by omega) (by decide)]; exact hK.2.1
  have g215 : H5.2.2 21 = some (iC 8 fo) := by rw [o5 21 (by decide), o2 21 (by omega) (by decide)]; exact hK.2.2
  have g185 : H5.2.2 18 = some (rC 2 8 g) := by rw [o5 18 (by decide)]; exact m1
  have e51 : H5.1 = H2.1 := by rw [hH5, tw_sg1, hH4, tw_sg1, hH3, tw_sg1, tw_sg1, tw_sg1]
  have e52 : H5.2.1 = H2.2.1 := by rw [hH5, tw_sg2, hH4, tw_sg2, hH3, tw_sg2, tw_sg2, tw_sg2]
  have gW : WkAt H5 g (TT nw kd wt) := fun k hk => by
    rcases m2 k hk with ⟨y1, a, y2, y3, y4, y5⟩ | ⟨y1, y2⟩
    · refine Or.inr ⟨a, clsK (kd k), nI k, wt k, y2, ?_, by omega, clsK_or _, ?_⟩
      · rw [o5 a (by omega)]; exact y5
      · unfold TT; rw [if_pos y1, clsK_tk]
    · refine Or.inl ⟨y2, ?_⟩
      unfold TT; rw [if_neg y1]
  have harr := x_arrange (h := H5) (o := 19) (tk := 20) (od := 21) (wa := 18) g195 (by decide) (by decide) (by decide) g205 g215 g185 (by decide) gW (by decide) (by decide) (by decide) (by decide) 0 (-1)
  obtain ⟨H6, hH6⟩ : ∃ H6, H6 = tw_set (tw_set H5 20 (iC 8 (fset ft (aT (TT nw kd wt) (-1)) 8))) 21 (iC 8 (orF (fset ft (aT (TT nw kd wt) (-1)) 8) 0 fo)) := ⟨_, rfl⟩
  rw [← hH6] at harr
  have o6 : ∀ a, a ≠ 20 ∧ a ≠ 21 → H6.2.2 a = H5.2.2 a := fun a ha => by rw [hH6, tw_sg, if_neg ha.2, tw_sg, if_neg ha.1]
  have e61 : H6.1 = H2.1 := by rw [hH6, tw_sg1, tw_sg1, e51]
  have e62 : H6.2.1 = H2.2.1 := by rw [hH6, tw_sg2, tw_sg2, e52]
  have c8 : tw_co H2 8 = some 5 := gS2.co
  have c14 : tw_co H3 14 = some 2 := by simp [tw_co, g143]
  have c19 : tw_co H5 19 = some 6 := by simp [tw_co, g195]
  refine ⟨H6, g, fset ft (aT (TT nw kd wt) (-1)) 8, orF (fset ft (aT (TT nw kd wt) (-1)) 8) 0 fo, ?_, ?_, ?_, ?_, ?_, ?_, ?_, ?_, ?_, ?_, ?_, ?_⟩
  · have s1 : tw_b 22 0 [.ref 1, tw_un] [] H = tw_b 22 13 [.ref 1, .int 0] [] H1 := by
      rw [hH1]
      simp [s22_0, s22_1, s22_2, s22_5, s22_8, s22_11, s22_12, s22_14, s22_15, s22_18, s22_19, s22_22, s22_23, s22_26, s22_27, s22_28, s22_29, s22_32, s22_35, s22_36, s22_37, s22_40, s22_43, s22_44, s22_47, s22_48, s22_51, s22_54, s22_55, s22_58, s22_61, s22_64, s22_65, s22_66, s22_69, s22_73, s22_76, s22_77, s22_80, s22_83, s22_84, s22_87, s22_90, s22_93, s22_94, s22_97, s22_100, s22_101, s22_102, s22_105, s22_108, s22_109, s22_110, s22_113, s22_114, s22_115, s22_118, s22_119, s22_120, s22_123, s22_124, s22_127, s22_128, s22_131, s22_132, s22_135, s22_136, s22_139, tw_gf, tw_sf, hX, h3, tw_fit]
    have s2 : tw_b 22 72 [.ref 1, .int (nI 8)] [] H2 = tw_b 22 100 [.ref 1, .int (nI 8)] [] H4 := by
      simp [s22_72, s22_73, s22_76, s22_77, s22_80, s22_83, s22_84, s22_87, s22_90, s22_93, s22_94, s22_97, tw_gf, gX2, g32, gX3, c8, c14, hrise, hforg]
    have s3 : tw_b 22 100 [.ref 1, .int (nI 8)] [] H4 = tw_b 22 123 [.ref 1, .int (nI 8)] [] H5 := by
      rw [hH5]
      simp [s22_100, s22_101, s22_102, s22_105, s22_108, s22_109, s22_110, s22_113, s22_114, s22_115, s22_118, s22_119, s22_120, tw_gf, tw_sf, gX4, tw_fit, x_bit, tw_sg, tw_ss]
    rw [s1, hloop, s2, s3]
    simp [s22_123, s22_124, s22_127, s22_128, s22_131, s22_132, s22_135, s22_136, s22_139, tw_gf, gX5, c19, harr]
  · rw [o6 18 (by decide)]; exact g185
  · intro k hk
    rcases m2 k hk with ⟨y1, a, y2, y3, y4, y5⟩ | ⟨y1, y2⟩
    · refine Or.inl ⟨y1, a, y2, by omega, by omega, ?_⟩
      rw [o6 a (by omega), o5 a (by omega)]; exact y5
    · exact Or.inr ⟨y1, y2⟩
  · rw [o6 1 (by decide)]; exact gX5
  · refine ⟨?_, ?_, ?_, ?_, ?_, ?_, by omega⟩
    · rw [o6 8 (by decide), hH5, tw_sg, if_neg (by decide), hH4, tw_sg, if_neg (by decide), hH3, tw_sg, if_neg (by decide), tw_sg, if_pos rfl]
    · rw [o6 13 (by decide), hH5, tw_sg, if_neg (by decide), hH4, tw_sg, if_neg (by decide), hH3, tw_sg, if_neg (by decide), tw_sg, if_neg (by decide), tw_sg, if_pos rfl]
    · rw [o6 9 (by decide), hH5, tw_sg, if_neg (by decide), hH4, tw_sg, if_neg (by decide), hH3, tw_sg, if_pos rfl]; rfl
    · rw [o6 10 (by decide), o5 10 (by decide)]; exact gS2.2.2.2.1
    · rw [o6 11 (by decide), o5 11 (by decide)]; exact gS2.2.2.2.2.1
    · rw [o6 12 (by decide), o5 12 (by decide)]; exact gS2.2.2.2.2.2.1
  · refine ⟨?_, ?_, ?_, ?_, by omega⟩
    · rw [o6 14 (by decide), hH5, tw_sg, if_neg (by decide), hH4, tw_sg, if_pos rfl]; rfl
    · rw [o6 15 (by decide), o5 15 (by decide)]; exact gR2.2.1
    · rw [o6 16 (by decide), o5 16 (by decide)]; exact gR2.2.2.1
    · rw [o6 17 (by decide), o5 17 (by decide)]; exact gR2.2.2.2.1
  · refine ⟨?_, ?_, ?_⟩
    · rw [o6 19 (by decide)]; exact g195
    · rw [hH6, tw_sg, if_neg (by decide), tw_sg, if_pos rfl]
    · rw [hH6, tw_sg, if_pos rfl]
  · intro j hj
    exact ⟨fset_lt hj, orF_odZ (fun i hi => fset_lt hi) 0 fo j hj⟩
  · intro a ha hn
    rw [o6 a (by omega), o5 a (by omega), o2 a ha (by omega)]
  · omega
  · omega
  · omega
end T7
