/-! the calls that change a little -/
section I4
variable {h : tw_H} {nw nt s0 ns nr : Nat} {hk lw fl tr : Int32} {tfx tfm sw sh sa f34 f35 rw rh ra ft fo kd wt sz ln sf : Nat → Int32} {g : Nat → Option Nat}
theorem XI.s1 (H : XI h nw nt s0 ns nr hk lw fl tr tfx sw sh sa rw rh ra ft fo kd wt g) (hk' lw' fl' : Int32) (s0' : Nat) : XI (tw_set h 1 (xC (nI nw) hk' lw' (nI s0') fl')) nw nt s0' ns nr hk' lw' fl' tr tfx sw sh sa rw rh ra ft fo kd wt g := by
  obtain ⟨x1, x2, x3, x4, x5, ⟨oa, ob, x6⟩, ⟨lf, x7⟩, x8, x9, x10, ti, wo, pl, fr, si, co, A, B, C, x11⟩ := H
  refine ⟨x1, by rw [tw_sg, if_pos rfl], x3.set (by omega), x4.set (by omega), x5.set (by decide), ⟨oa, ob, x6.set (by decide)⟩, ⟨lf, x7.set (by decide)⟩, by rw [tw_sg, if_neg (by decide)]; exact x8, x9.congr (Nat.le_refl _) (fun a h1 _ => by rw [tw_sg, if_neg (by omega)]), by rw [tw_sg, if_neg (by decide)]; exact x10, ti, wo, pl, fr, si, co, A, B, C, ?_⟩
  rw [tw_sg, if_neg (by decide), tw_sg, if_neg (by decide), tw_sg, if_neg (by decide), tw_sg, if_neg (by decide)]
  exact x11
theorem SI.lo (H : SI h sz ln sf) {a : Nat} (ha : a < 44) (h2 : a ≠ 2) (e : tw_C) : SI (tw_set h a e) sz ln sf := H.congr (Nat.le_refl _) (by rw [tw_sg, if_neg (Ne.symm h2)]) (fun b h1 _ => by rw [tw_sg, if_neg (by omega)])
theorem MI.lo (H : MI h nw nt s0 ns nr hk lw fl tr tfm f34 f35 rw rh ra kd wt sz ln sf) {a : Nat} (ha : a < 27 ∨ 43 < a) (e : tw_C) : MI (tw_set h a e) nw nt s0 ns nr hk lw fl tr tfm f34 f35 rw rh ra kd wt sz ln sf := H.congr (fun b h1 h2 => by rw [tw_sg, if_neg (by omega)])
theorem XI.hi (H : XI h nw nt s0 ns nr hk lw fl tr tfx sw sh sa rw rh ra ft fo kd wt g) {a : Nat} (ha : 26 < a ∧ a < 44) (e : tw_C) : XI (tw_set h a e) nw nt s0 ns nr hk lw fl tr tfx sw sh sa rw rh ra ft fo kd wt g := H.congr rfl (fun b hb => by rw [tw_sg, if_neg (by omega)])
theorem MI.s27 (H : MI h nw nt s0 ns nr hk lw fl tr tfm f34 f35 rw rh ra kd wt sz ln sf) (b1 b2 b3 hk' lw' fl' tr' : Int32) (s0' ns' nr' : Nat) (hn : nr' ≤ nr) : MI (tw_set h 27 (mC fl' (nI nt) (nI nw) hk' lw' (nI s0') (-9) b1 b2 b3 (nI ns') (nI nr') tr')) nw nt s0' ns' nr' hk' lw' fl' tr' tfm f34 f35 rw rh ra kd wt sz ln sf := by
  obtain ⟨⟨r1, r2, r3, m1⟩, m2, ⟨hd, m3⟩, ⟨f, m4⟩, A, B, C, m5⟩ := H
  refine ⟨⟨b1, b2, b3, ?_⟩, ?_, ⟨hd, ?_⟩, ⟨f, by rw [tw_sg, if_neg (by decide)]; exact m4⟩, A, B, C, ?_⟩
  · unfold MZ at m1 ⊢
    refine ⟨by rw [tw_sg, if_pos rfl], ?_⟩
    simp only [tw_sg]
    simpa using m1.2
  · obtain ⟨k1, k2, k3, k4, k5⟩ := m2.set (a := 27) (e := mC fl' (nI nt) (nI nw) hk' lw' (nI s0') (-9) b1 b2 b3 (nI ns') (nI nr') tr') (by omega)
    exact ⟨k1, k2, k3, by omega, fun x hx => k5 x (by omega)⟩
  · unfold MH at m3 ⊢
    simp only [tw_sg]
    simpa using m3
  · simp only [tw_sg]
    simpa using m5
end I4
section I5
variable {h : tw_H}
theorem x_kindW {a : Nat} (h : tw_H) : tw_b 41 0 [.ref a] [] h = some (some (.int 0), h) ∧ tw_b 39 0 [.ref a] [] h = some (some (.int 1), h) ∧ tw_b 40 0 [.ref a] [] h = some (some (.int 2), h) := by
  refine ⟨?_, ?_, ?_⟩
  · simp [s41_0, s41_1]
  · simp [s39_0, s39_1]
  · simp [s40_0, s40_1]
theorem c_ofWork (I : Inv h) (k what : Int32) : Two h 37 [.ref 1, .int k, .int what, tw_un] 122 [.ref 27, .int k, .int what] := by
  obtain ⟨nw, nt, s0, ns, nr, hk, lw, fl, tr, tfx, tfm, sw, sh, sa, f34, f35, r1, r2, r3, ft, fo, kd, wt, sz, ln, sf, g, hX, hS, hM, hR⟩ := id I
  obtain ⟨x44, xX, xS, xR, xK, ⟨oa, ob, xO⟩, ⟨lf, xL⟩, xW, xWK, xT, xTx⟩ := id hX
  obtain ⟨⟨a1, a2, a3, mZ⟩, mR, ⟨hd, mH⟩, ⟨mf, mL⟩, mA⟩ := id hM
  obtain ⟨r8, r6, r0, rs, rW, rT, rN, rF⟩ := id hR
  have ew := x_workOf xX xW k
  have em := m_noWork mZ.1 k
  by_cases qk : ¬ k < 0 ∧ k < nI nw
  · obtain ⟨j, hj, rfl⟩ := xWK.isref r8 qk
    obtain ⟨a, wa, a43, ah, ac, ak⟩ := xWK.ref r8 hj
    rw [wa] at ew
    rw [decide_eq_true qk] at em
    have ev := tw_vi_n (show j < 8 by omega) (by decide)
    have ec := nI_clamp (show j < 2 ^ 31 by omega)
    have a0 : a ≠ 0 := by omega
    have ekx := x_kindW (a := a) h
    have etk := m_takesOf mZ.1 mZ.2.2.1 mZ.2.2.2.1 (show j < 8 by omega)
    by_cases q0 : what = 0
    · subst q0
      refine ⟨.int (kd j), h, h, ?_, ?_, I, by omega, by omega⟩
      · rcases ak with z | z | z
        · rw [z] at ac
          have hco : tw_co h a = some 9 := by simp [tw_co, ac, a0, clsK]
          rw [z]
          simp [s37_0, s37_1, s37_2, s37_5, s37_5n, s37_6, s37_6n, s37_7, s37_7n, s37_10, s37_11, s37_12, s37_13, s37_44, s37_44n, s37_45c9, s37_45c0, s37_45c4, s37_48, s37_49, s37_49n, s37_50, s37_53, s37_54, s37_54n, s37_55c9, s37_55c0, s37_55c4, s37_58, s37_59, s37_60, s37_63, s37_64, s37_67, s37_70, s37_71, s37_74, s37_75, s37_76, s37_78, xco xX, ew, hco, ekx.1]
        · rw [z] at ac
          have hco : tw_co h a = some 0 := by simp [tw_co, ac, a0, clsK]
          rw [z]
          simp [s37_0, s37_1, s37_2, s37_5, s37_5n, s37_6, s37_6n, s37_7, s37_7n, s37_10, s37_11, s37_12, s37_13, s37_44, s37_44n, s37_45c9, s37_45c0, s37_45c4, s37_48, s37_49, s37_49n, s37_50, s37_53, s37_54, s37_54n, s37_55c9, s37_55c0, s37_55c4, s37_58, s37_59, s37_60, s37_63, s37_64, s37_67, s37_70, s37_71, s37_74, s37_75, s37_76, s37_78, xco xX, ew, hco, ekx.2.1]
        · rw [z] at ac
          have hco : tw_co h a = some 4 := by simp [tw_co, ac, a0, clsK]
          rw [z]
          simp [s37_0, s37_1, s37_2, s37_5, s37_5n, s37_6, s37_6n, s37_7, s37_7n, s37_10, s37_11, s37_12, s37_13, s37_44, s37_44n, s37_45c9, s37_45c0, s37_45c4, s37_48, s37_49, s37_49n, s37_50, s37_53, s37_54, s37_54n, s37_55c9, s37_55c0, s37_55c4, s37_58, s37_59, s37_60, s37_63, s37_64, s37_67, s37_70, s37_71, s37_74, s37_75, s37_76, s37_78, xco xX, ew, hco, ekx.2.2]
      · simp [s122_0, s122_1, s122_2, s122_5, s122_8, s122_9, s122_10, s122_11, s122_40, s122_41, s122_44, s122_45, s122_46, s122_47, s122_48, s122_51, s122_52, s122_53, s122_54, s122_55, s122_56, s122_59, s122_60, s122_61, s122_64, s122_65, s122_68, s122_71, s122_72, s122_75, s122_76, s122_77, s122_79, mco mZ.1, em, tw_bi_0, tw_gf, tw_ia, mZ.1, mZ.2.2.1, ev, ec]
    · by_cases q1 : what = 1
      · subst q1
        refine ⟨.int (wt j), h, h, ?_, ?_, I, by omega, by omega⟩
        · have hc := clsK_or (kd j)
          have hc' : clsK (kd j) = 0 ∨ clsK (kd j) = 4 ∨ clsK (kd j) = 9 := by omega
          simp [s37_0, s37_1, s37_2, s37_5, s37_5n, s37_6, s37_6n, s37_7, s37_7n, s37_10, s37_11, s37_12, s37_13, s37_44, s37_44n, s37_45c9, s37_45c0, s37_45c4, s37_48, s37_49, s37_49n, s37_50, s37_53, s37_54, s37_54n, s37_55c9, s37_55c0, s37_55c4, s37_58, s37_59, s37_60, s37_63, s37_64, s37_67, s37_70, s37_71, s37_74, s37_75, s37_76, s37_78, xco xX, ew, tw_gf, ac, a0, hc']
        · simp [s122_0, s122_1, s122_2, s122_5, s122_8, s122_9, s122_10, s122_11, s122_40, s122_41, s122_44, s122_45, s122_46, s122_47, s122_48, s122_51, s122_52, s122_53, s122_54, s122_55, s122_56, s122_59, s122_60, s122_61, s122_64, s122_65, s122_68, s122_71, s122_72, s122_75, s122_76, s122_77, s122_79, mco mZ.1, em, tw_bi_0, tw_gf, tw_ia, mZ.1, mZ.2.2.2.1, ev, ec]
      · by_cases q2 : what = 2
        · subst q2
          refine ⟨.int (tkK (kd j) (wt j)), h, h, ?_, ?_, I, by omega, by omega⟩
          · rcases ak with z | z | z
            · rw [z] at ac
              have hco : tw_co h a = some 9 := by simp [tw_co, ac, a0, clsK]
              rw [z]
              simp [s37_0, s37_1, s37_2, s37_5, s37_5n, s37_6, s37_6n, s37_7, s37_7n, s37_10, s37_11, s37_12, s37_13, s37_44, s37_44n, s37_45c9, s37_45c0, s37_45c4, s37_48, s37_49, s37_49n, s37_50, s37_53, s37_54, s37_54n, s37_55c9, s37_55c0, s37_55c4, s37_58, s37_59, s37_60, s37_63, s37_64, s37_67, s37_70, s37_71, s37_74, s37_75, s37_76, s37_78, xco xX, ew, hco, x_takesW ac a0 (Or.inl rfl), tkK]
            · rw [z] at ac
              have hco : tw_co h a = some 0 := by simp [tw_co, ac, a0, clsK]
              rw [z]
              simp [s37_0, s37_1, s37_2, s37_5, s37_5n, s37_6, s37_6n, s37_7, s37_7n, s37_10, s37_11, s37_12, s37_13, s37_44, s37_44n, s37_45c9, s37_45c0, s37_45c4, s37_48, s37_49, s37_49n, s37_50, s37_53, s37_54, s37_54n, s37_55c9, s37_55c0, s37_55c4, s37_58, s37_59, s37_60, s37_63, s37_64, s37_67, s37_70, s37_71, s37_74, s37_75, s37_76, s37_78, xco xX, ew, hco, x_takesB ac a0 (Or.inl rfl), tkK]
            · rw [z] at ac
              have hco : tw_co h a = some 4 := by simp [tw_co, ac, a0, clsK]
              rw [z]
              simp [s37_0, s37_1, s37_2, s37_5, s37_5n, s37_6, s37_6n, s37_7, s37_7n, s37_10, s37_11, s37_12, s37_13, s37_44, s37_44n, s37_45c9, s37_45c0, s37_45c4, s37_48, s37_49, s37_49n, s37_50, s37_53, s37_54, s37_54n, s37_55c9, s37_55c0, s37_55c4, s37_58, s37_59, s37_60, s37_63, s37_64, s37_67, s37_70, s37_71, s37_74, s37_75, s37_76, s37_78, xco xX, ew, hco, x_takesS ac a0, tkK]
          · simp [s122_0, s122_1, s122_2, s122_5, s122_8, s122_9, s122_10, s122_11, s122_40, s122_41, s122_44, s122_45, s122_46, s122_47, s122_48, s122_51, s122_52, s122_53, s122_54, s122_55, s122_56, s122_59, s122_60, s122_61, s122_64, s122_65, s122_68, s122_71, s122_72, s122_75, s122_76, s122_77, s122_79, mco mZ.1, em, tw_bi_0, etk]
        · by_cases q3 : what = 3
          · subst q3
            refine ⟨.int (if hasB hk (nI j) = true then 1 else 0), h, h, ?_, ?_, I, by omega, by omega⟩
            · by_cases z : hasB hk (nI j) = true <;> simp [s37_0, s37_1, s37_2, s37_5, s37_5n, s37_6, s37_6n, s37_7, s37_7n, s37_10, s37_11, s37_12, s37_13, s37_44, s37_44n, s37_45c9, s37_45c0, s37_45c4, s37_48, s37_49, s37_49n, s37_50, s37_53, s37_54, s37_54n, s37_55c9, s37_55c0, s37_55c4, s37_58, s37_59, s37_60, s37_63, s37_64, s37_67, s37_70, s37_71, s37_74, s37_75, s37_76, s37_78, xco xX, ew, tw_gf, xX, x_has, tw_bi_0, z]
            · by_cases z : hasB hk (nI j) = true <;> simp [s122_0, s122_1, s122_2, s122_5, s122_8, s122_9, s122_10, s122_11, s122_40, s122_41, s122_44, s122_45, s122_46, s122_47, s122_48, s122_51, s122_52, s122_53, s122_54, s122_55, s122_56, s122_59, s122_60, s122_61, s122_64, s122_65, s122_68, s122_71, s122_72, s122_75, s122_76, s122_77, s122_79, mco mZ.1, em, tw_gf, mZ.1, m_isIn, tw_bi_0, z]
          · refine ⟨.int (-2), h, h, ?_, ?_, I, by omega, by omega⟩
            · simp [s37_0, s37_1, s37_2, s37_5, s37_5n, s37_6, s37_6n, s37_7, s37_7n, s37_10, s37_11, s37_12, s37_13, s37_44, s37_44n, s37_45c9, s37_45c0, s37_45c4, s37_48, s37_49, s37_49n, s37_50, s37_53, s37_54, s37_54n, s37_55c9, s37_55c0, s37_55c4, s37_58, s37_59, s37_60, s37_63, s37_64, s37_67, s37_70, s37_71, s37_74, s37_75, s37_76, s37_78, xco xX, ew, q0, q1, q2, q3]
            · simp [s122_0, s122_1, s122_2, s122_5, s122_8, s122_9, s122_10, s122_11, s122_40, s122_41, s122_44, s122_45, s122_46, s122_47, s122_48, s122_51, s122_52, s122_53, s122_54, s122_55, s122_56, s122_59, s122_60, s122_61, s122_64, s122_65, s122_68, s122_71, s122_72, s122_75, s122_76, s122_77, s122_79, mco mZ.1, em, tw_bi_0, q0, q1, q2, q3]
  · rw [(xWK.null r8 k).mpr qk] at ew
    rw [decide_eq_false qk] at em
    refine ⟨.int (-1), h, h, ?_, ?_, I, by omega, by omega⟩
    · simp [s37_0, s37_1, s37_2, s37_5, s37_5n, s37_6, s37_6n, s37_7, s37_7n, s37_10, s37_11, s37_12, s37_13, s37_44, s37_44n, s37_45c9, s37_45c0, s37_45c4, s37_48, s37_49, s37_49n, s37_50, s37_53, s37_54, s37_54n, s37_55c9, s37_55c0, s37_55c4, s37_58, s37_59, s37_60, s37_63, s37_64, s37_67, s37_70, s37_71, s37_74, s37_75, s37_76, s37_78, xco xX, ew]
    · simp [s122_0, s122_1, s122_2, s122_5, s122_8, s122_9, s122_10, s122_11, s122_40, s122_41, s122_44, s122_45, s122_46, s122_47, s122_48, s122_51, s122_52, s122_53, s122_54, s122_55, s122_56, s122_59, s122_60, s122_61, s122_64, s122_65, s122_68, s122_71, s122_72, s122_75, s122_76, s122_77, s122_79, mco mZ.1, em, tw_bi_0]
theorem c_law (I : Inv h) (v : Int32) : Two h 42 [.ref 1, .int v, tw_un] 126 [.ref 27, .int v, tw_un] := by
  obtain ⟨nw, nt, s0, ns, nr, hk, lw, fl, tr, tfx, tfm, sw, sh, sa, f34, f35, r1, r2, r3, ft, fo, kd, wt, sz, ln, sf, g, hX, hS, hM, hR⟩ := id I
  obtain ⟨x44, xX, xS, xR, xK, ⟨oa, ob, xO⟩, ⟨lf, xL⟩, xW, xWK, xT, xTx⟩ := id hX
  obtain ⟨⟨a1, a2, a3, mZ⟩, mR, ⟨hd, mH⟩, ⟨mf, mL⟩, mA⟩ := id hM
  obtain ⟨r8, r6, r0, rs, rW, rT, rN, rF⟩ := id hR
  have i3 : ((0 : Int64) ≤ v.toInt64) = ¬ v < 0 := l_ge v 0 0 rfl
  have i4 : (v.toInt64 ≤ (2 : Int64)) = ¬ 2 < v := l_le v 2 2 rfl
  have i5 : (¬ v < 0 ∧ ¬ 2 < v) = (¬ v < 0 ∧ v < 3) := by
    rw [Int32.lt_iff_toInt_lt, Int32.lt_iff_toInt_lt, Int32.lt_iff_toInt_lt]
    have : (2 : Int32).toInt = 2 := rfl
    have : (3 : Int32).toInt = 3 := rfl
    exact propext (by omega)
  have hi := fun h => m_in v.toInt64 0 2 h
  by_cases q : ¬ v < 0 ∧ v < 3
  · simp only [show decide ((0 : Int64) ≤ v.toInt64 ∧ v.toInt64 ≤ 2) = true from by rw [decide_eq_true_iff, i3, i4, i5]; exact q] at hi
    by_cases hw0 : nw = 0
    · have w0 : nI nw = 0 := by rw [hw0]; rfl
      refine ⟨.int (-3), h, h, ?_, ?_, I, by omega, by omega⟩
      · simp [s42_0, s42_1, s42_4, s42_5, s42_6, s42_9, s42_11, s42_12, s42_13, s42_16, s42_19, s42_21, s42_22, s42_23, s42_26, s42_27, s42_28, s42_29, s42_32, s42_33, s42_36, s42_37, s42_40, s42_41, s42_44, s42_45, s42_48, s42_49, q, xco xX, x_hasNoTown xX, tw_bi_0, w0]
      · simp [s126_0, s126_1, s126_2, s126_3, s126_6, s126_9, s126_12, s126_14, s126_15, s126_16, s126_19, s126_22, s126_24, s126_25, s126_26, s126_29, s126_30, s126_31, s126_32, s126_35, s126_36, hi, tw_bi_0, tw_gf, mZ.1, w0]
    have hw : 0 < nw := by omega
    have n0 : 0 < nt := by
      by_cases z : nt = 0
      · have := r0.mpr z; omega
      · omega
    have hs0 := rs hw
    have hT := tid_ok n0 r6 hs0
    have hf1 := fun j (hj : j < 8) => (rF hw j hj).1
    have hf2 := fun j (hj : j < 8) => (rF hw j hj).2
    have wne : ¬ nI nw = 0 := nI_ne0 hw (by omega)
    have n6 : ns ≤ 6 := xS.2.2.2.2.2.2
    have hst := st_eq (hk := hk) (sh := sh) (sa := sa) (f34 := f34) (f35 := f35) n0 r6 hs0 rT rN hf1 hf2
    have hstr := fun s (hs : s < 60) => str_eq (sh := sh) (sa := sa) (f34 := f34) (f35 := f35) n0 r6 hs0 rT rN hs
    obtain ⟨H1, hH1⟩ : ∃ H1, H1 = tw_set h 1 (xC (nI nw) hk v (nI s0) fl) := ⟨_, rfl⟩
    have hX1 := hX.s1 hk v fl s0
    have hS1 := hS.lo (a := 1) (by omega) (by omega) (xC (nI nw) hk v (nI s0) fl)
    have hM1 := hM.lo (a := 1) (by omega) (xC (nI nw) hk v (nI s0) fl)
    rw [← hH1] at hX1 hS1 hM1
    obtain ⟨x1, x2, x3, x4, x5, x6, x7, x8, x9, x10, x11⟩ := id hX1
    have harr := x_arrange (h := H1) (o := 19) (tk := 20) (od := 21) (wa := 18) x5.1 (by decide) (by decide) (by decide) x5.2.1 x5.2.2 x8 (by decide) (x9.at r8) (by decide) (by decide) (by decide) (by decide) v (-1)
    obtain ⟨H2, hH2⟩ : ∃ H2, H2 = tw_set (tw_set H1 20 (iC 8 (fset ft (aT (TT nw kd wt) (-1)) 8))) 21 (iC 8 (orF (fset ft (aT (TT nw kd wt) (-1)) 8) v fo)) := ⟨_, rfl⟩
    rw [← hH2] at harr
    have o2 : ∀ a, a ≠ 20 ∧ a ≠ 21 → H2.2.2 a = H1.2.2 a := fun a ha => by rw [hH2, tw_sg, if_neg ha.2, tw_sg, if_neg ha.1]
    have e21 : H2.1 = H1.1 := by rw [hH2, tw_sg1, tw_sg1]
    have e11 : H1.1 = h.1 := by rw [hH1, tw_sg1]
    have e22 : H2.2.1 = h.2.1 := by rw [hH2, tw_sg2, tw_sg2, hH1, tw_sg2]
    have hX2 : XI H2 nw nt s0 ns nr hk v fl tr tfx sw sh sa r1 r2 r3 (fset ft (aT (TT nw kd wt) (-1)) 8) (orF (fset ft (aT (TT nw kd wt) (-1)) 8) v fo) kd wt g := by
      obtain ⟨pa, pb, x6⟩ := x6
      obtain ⟨pl, x7⟩ := x7
      refine ⟨by omega, by rw [o2 1 (by decide)]; exact x2, ?_, ?_, ⟨by rw [o2 19 (by decide)]; exact x5.1, by rw [hH2, tw_sg, if_neg (by decide), tw_sg, if_pos rfl], by rw [hH2, tw_sg, if_pos rfl]⟩, ⟨pa, pb, ?_⟩, ⟨pl, ?_⟩, by rw [o2 18 (by decide)]; exact x8, x9.congr (by omega) (fun a h1 _ => o2 a (by omega)), by rw [o2 7 (by decide)]; exact x10, ?_⟩
      · rw [hH2]; exact (x3.set (by omega)).set (by omega)
      · rw [hH2]; exact (x4.set (by omega)).set (by omega)
      · rw [hH2]; exact (x6.set (by decide)).set (by decide)
      · rw [hH2]; exact (x7.set (by decide)).set (by decide)
      · obtain ⟨ti, wo, pl, fr, si, co, A, B, C, x11⟩ := x11
        refine ⟨ti, wo, pl, fr, si, co, A, B, C, ?_⟩
        rw [o2 3 (by decide), o2 4 (by decide), o2 5 (by decide), o2 6 (by decide)]; exact x11
    have hS2 : SI H2 sz ln sf := hS1.congr (by omega) (o2 2 (by decide)) (fun a h1 _ => o2 a (by omega))
    have hM2 := hM1.congr (h' := H2) (fun a h1 h2 => o2 a (by omega))
    have hM3 := hM2.s27 a1 a2 a3 hk v fl tr s0 ns nr (Nat.le_refl _)
    have gM : H2.2.2 27 = some (mC fl (nI nt) (nI nw) hk lw (nI s0) (-9) a1 a2 a3 (nI ns) (nI nr) tr) := by rw [o2 27 (by decide), hH1, tw_sg, if_neg (by decide)]; exact mZ.1
    refine ⟨.int lw, H2, tw_set H2 27 (mC fl (nI nt) (nI nw) hk v (nI s0) (-9) a1 a2 a3 (nI ns) (nI nr) tr), ?_, ?_, ?_, by rw [tw_sg1]; omega, by rw [tw_sg2]; omega⟩
    · have c19 : tw_co H1 19 = some 6 := by simp [tw_co, x5.1]
      simp [s42_0, s42_1, s42_4, s42_5, s42_6, s42_9, s42_11, s42_12, s42_13, s42_16, s42_19, s42_21, s42_22, s42_23, s42_26, s42_27, s42_28, s42_29, s42_32, s42_33, s42_36, s42_37, s42_40, s42_41, s42_44, s42_45, s42_48, s42_49, q, xco xX, x_hasNoTown xX, tw_bi_0, wne, tw_gf, tw_sf, xX, tw_fit]
      rw [← hH1]
      simp [s42_0, s42_1, s42_4, s42_5, s42_6, s42_9, s42_11, s42_12, s42_13, s42_16, s42_19, s42_21, s42_22, s42_23, s42_26, s42_27, s42_28, s42_29, s42_32, s42_33, s42_36, s42_37, s42_40, s42_41, s42_44, s42_45, s42_48, s42_49, tw_gf, x2, c19, harr]
    · simp [s126_0, s126_1, s126_2, s126_3, s126_6, s126_9, s126_12, s126_14, s126_15, s126_16, s126_19, s126_22, s126_24, s126_25, s126_26, s126_29, s126_30, s126_31, s126_32, s126_35, s126_36, hi, tw_bi_0, tw_gf, tw_sf, gM, tw_fit, wne]
    · refine ⟨nw, nt, s0, ns, nr, hk, v, fl, tr, tfx, tfm, sw, sh, sa, f34, f35, r1, r2, r3, _, _, kd, wt, sz, ln, sf, g, hX2.hi (by omega) _, hS2.lo (by omega) (by omega) _, hM3, r8, r6, r0, rs, rW, rT, rN, fun _ j hj => ⟨?_, ?_⟩⟩
      · rw [fset_lt hj]; exact aT_out hj
      · rw [orF_odZ (fun i hi => fset_lt hi) v fo j hj]; exact odZ_out hj
  · simp only [show decide ((0 : Int64) ≤ v.toInt64 ∧ v.toInt64 ≤ 2) = false from by rw [decide_eq_false_iff_not, i3, i4, i5]; exact q] at hi
    refine ⟨.int (-2), h, h, ?_, ?_, I, by omega, by omega⟩
    · by_cases q1 : v < 0
      · simp [s42_0, s42_1, s42_4, s42_5, s42_6, s42_9, s42_11, s42_12, s42_13, s42_16, s42_19, s42_21, s42_22, s42_23, s42_26, s42_27, s42_28, s42_29, s42_32, s42_33, s42_36, s42_37, s42_40, s42_41, s42_44, s42_45, s42_48, s42_49, q1]
      · have q2 : ¬ v < 3 := fun z => q ⟨q1, z⟩
        simp [s42_0, s42_1, s42_4, s42_5, s42_6, s42_9, s42_11, s42_12, s42_13, s42_16, s42_19, s42_21, s42_22, s42_23, s42_26, s42_27, s42_28, s42_29, s42_32, s42_33, s42_36, s42_37, s42_40, s42_41, s42_44, s42_45, s42_48, s42_49, q1, q2]
    · simp [s126_0, s126_1, s126_2, s126_3, s126_6, s126_9, s126_12, s126_14, s126_15, s126_16, s126_19, s126_22, s126_24, s126_25, s126_26, s126_29, s126_30, s126_31, s126_32, s126_35, s126_36, hi, tw_bi_0]
theorem c_start (I : Inv h) (v : Int32) : Two h 44 [.ref 1, .int v, tw_un] 127 [.ref 27, .int v, tw_un] := by
  obtain ⟨nw, nt, s0, ns, nr, hk, lw, fl, tr, tfx, tfm, sw, sh, sa, f34, f35, r1, r2, r3, ft, fo, kd, wt, sz, ln, sf, g, hX, hS, hM, hR⟩ := id I
  obtain ⟨x44, xX, xS, xR, xK, ⟨oa, ob, xO⟩, ⟨lf, xL⟩, xW, xWK, xT, xTx⟩ := id hX
  obtain ⟨⟨a1, a2, a3, mZ⟩, mR, ⟨hd, mH⟩, ⟨mf, mL⟩, mA⟩ := id hM
  obtain ⟨r8, r6, r0, rs, rW, rT, rN, rF⟩ := id hR
  have i3 : ((0 : Int64) ≤ v.toInt64) = ¬ v < 0 := l_ge v 0 0 rfl
  have hi := fun h => m_in v.toInt64 0 ((nI nt).toInt64 - 1) h
  by_cases q : ¬ v < 0 ∧ v < nI nt
  · simp only [show decide ((0 : Int64) ≤ v.toInt64 ∧ v.toInt64 ≤ (nI nt).toInt64 - 1) = true from by rw [decide_eq_true_iff, i3, l_lt]; exact q] at hi
    obtain ⟨s1, hs1, rfl⟩ := nI_of q.1
    have hlt := (nI_ltI hs1 (by omega)).mp q.2
    refine ⟨.int (nI s0), tw_set h 1 (xC (nI nw) hk lw (nI s1) fl), tw_set (tw_set h 1 (xC (nI nw) hk lw (nI s1) fl)) 27 (mC fl (nI nt) (nI nw) hk lw (nI s1) (-9) a1 a2 a3 (nI ns) (nI nr) tr), ?_, ?_, ?_, by rw [tw_sg1, tw_sg1]; omega, by rw [tw_sg2, tw_sg2]; omega⟩
    · simp [s44_0, s44_1, s44_4, s44_5, s44_6, s44_9, s44_12, s44_15, s44_17, s44_18, s44_19, s44_22, s44_23, s44_24, s44_25, s44_28, s44_29, q, tw_gf, tw_sf, xX, xS.1, tw_fit]
    · simp [s127_0, s127_1, s127_2, s127_3, s127_4, s127_7, s127_8, s127_9, s127_10, s127_13, s127_16, s127_18, s127_19, s127_20, s127_23, s127_24, s127_25, s127_26, s127_29, s127_30, tw_gf, tw_sf, tw_sg, mZ.1, tw_fit, hi, tw_bi_0]
    · exact ⟨nw, nt, s1, ns, nr, hk, lw, fl, tr, tfx, tfm, sw, sh, sa, f34, f35, r1, r2, r3, ft, fo, kd, wt, sz, ln, sf, g, (hX.s1 hk lw fl s1).hi (by omega) _, (hS.lo (by omega) (by omega) _).lo (by omega) (by omega) _, (hM.lo (a := 1) (by omega) (xC (nI nw) hk lw (nI s1) fl)).s27 a1 a2 a3 hk lw fl tr s1 ns nr (Nat.le_refl _), r8, r6, r0, fun _ => hlt, rW, rT, rN, rF⟩
  · simp only [show decide ((0 : Int64) ≤ v.toInt64 ∧ v.toInt64 ≤ (nI nt).toInt64 - 1) = false from by rw [decide_eq_false_iff_not, i3, l_lt]; exact q] at hi
    refine ⟨.int (-2), h, h, ?_, ?_, I, by omega, by omega⟩
    · by_cases q1 : v < 0
      · simp [s44_0, s44_1, s44_4, s44_5, s44_6, s44_9, s44_12, s44_15, s44_17, s44_18, s44_19, s44_22, s44_23, s44_24, s44_25, s44_28, s44_29, q1]
      · have q2 : ¬ v < nI nt := fun z => q ⟨q1, z⟩
        simp [s44_0, s44_1, s44_4, s44_5, s44_6, s44_9, s44_12, s44_15, s44_17, s44_18, s44_19, s44_22, s44_23, s44_24, s44_25, s44_28, s44_29, q1, q2, tw_gf, xX, xS.1]
    · simp [s127_0, s127_1, s127_2, s127_3, s127_4, s127_7, s127_8, s127_9, s127_10, s127_13, s127_16, s127_18, s127_19, s127_20, s127_23, s127_24, s127_25, s127_26, s127_29, s127_30, tw_gf, mZ.1, hi, tw_bi_0]
end I5
