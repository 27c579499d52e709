/-! the calls that change a little, on -/
theorem or_set {a : Int32} {k : Nat} (hk : k < 32) (h : hasB a (nI k) = true) : a ||| bitI (nI k) = a := by
  rw [← Int32.toBitVec_inj]
  apply BitVec.eq_of_getLsbD_eq
  intro j hj
  rw [Int32.toBitVec_or, BitVec.getLsbD_or, bitI_bit hk]
  by_cases q : j = k
  · subst q; rw [hasB_bit _ hj] at h; simp [h]
  · simp [q]
theorem or_xor {a : Int32} {k : Nat} (hk : k < 32) (h : hasB a (nI k) = false) : a ||| bitI (nI k) = a ^^^ bitI (nI k) := by
  rw [← Int32.toBitVec_inj]
  apply BitVec.eq_of_getLsbD_eq
  intro j hj
  rw [Int32.toBitVec_or, BitVec.getLsbD_or, Int32.toBitVec_xor, BitVec.getLsbD_xor, bitI_bit hk]
  by_cases q : j = k
  · subst q; rw [hasB_bit _ hj] at h; simp [h]
  · simp [q]
theorem minus_xor {a : Int32} {k : Nat} (hk : k < 32) (h : hasB a (nI k) = true) : a &&& ~~~bitI (nI k) = a ^^^ bitI (nI k) := by
  rw [← nt1, ← Int32.toBitVec_inj]
  apply BitVec.eq_of_getLsbD_eq
  intro j hj
  rw [← hasB_bit _ hj, hasB_minus a hj hk, Int32.toBitVec_xor, BitVec.getLsbD_xor, bitI_bit hk, ← hasB_bit _ hj]
  by_cases q : j = k
  · subst q; simp [h, hj]
  · simp [q]
section I6
variable {h : tw_H}
theorem c_hook (I : Inv h) (k : Int32) (is : Bool) : Two h 45 [.ref 1, .int k, .int (tw_bi is)] 128 [.ref 27, .int k, .int (tw_bi is), tw_un] := by
  obtain ⟨nw, nt, s0, ns, nr, hk, lw, fl, tr, tfx, tfm, sw, sh, sa, f34, f35, r1, r2, r3, ft, fo, kd, wt, sz, ln, sf, g, hX, hS, hM, hR⟩ := id I
  obtain ⟨x44, xX, xS, xR, xK, ⟨oa, ob, xO⟩, ⟨lf, xL⟩, xW, xWK, xT, xTx⟩ := id hX
  obtain ⟨⟨a1, a2, a3, mZ⟩, mR, ⟨hd, mH⟩, ⟨mf, mL⟩, mA⟩ := id hM
  obtain ⟨r8, r6, r0, rs, rW, rT, rN, rF⟩ := id hR
  have ew := x_workOf xX xW k
  have em := m_noWork mZ.1 k
  have eb : ∀ k, (1 : Int32) <<< (k &&& 31) = bitI k := fun k => rfl
  by_cases qk : ¬ k < 0 ∧ k < nI nw
  · obtain ⟨j, hj, rfl⟩ := xWK.isref r8 qk
    obtain ⟨a, wa, a43, ah, ac, ak⟩ := xWK.ref r8 hj
    rw [wa] at ew
    rw [decide_eq_true qk] at em
    have fin : ∀ hk', hk' = hk → tw_set h 27 (mC fl (nI nt) (nI nw) hk' lw (nI s0) (-9) a1 a2 a3 (nI ns) (nI nr) tr) = h := fun hk' e => by rw [e]; exact tw_si h mZ.1
    by_cases q : hasB hk (nI j) = is
    · refine ⟨.int 0, h, h, ?_, ?_, I, by omega, by omega⟩
      · simp [s45_0, s45_1, s45_2, s45_5, s45_5n, s45_8, s45_9, s45_10, s45_11, s45_14, s45_15, s45_18, s45_19, s45_22, s45_23, s45_24, s45_25, s45_26, s45_29, s45_30, s45_33, s45_34, s45_37, s45_38, xco xX, ew, tw_gf, xX, x_has, q]
      · cases is with
        | true =>
          simp [s128_0, s128_1, s128_2, s128_5, s128_8, s128_9, s128_10, s128_11, s128_14, s128_15, s128_18, s128_19, s128_20, s128_21, s128_24, s128_25, s128_28, s128_29, s128_30, s128_31, s128_32, s128_35, s128_36, s128_39, s128_40, s128_41, s128_42, s128_43, s128_44, s128_45, s128_48, s128_49, s128_50, s128_53, s128_54, s128_57, s128_58, mco mZ.1, em, tw_bi_0, tw_gf, tw_sf, mZ.1, m_isIn, q, tw_bi_t, eb, tw_fit]
          exact fin _ (or_set (by omega) q)
        | false =>
          have e := minus_no (show j < 32 by omega) q
          rw [nt1] at e
          simp [s128_0, s128_1, s128_2, s128_5, s128_8, s128_9, s128_10, s128_11, s128_14, s128_15, s128_18, s128_19, s128_20, s128_21, s128_24, s128_25, s128_28, s128_29, s128_30, s128_31, s128_32, s128_35, s128_36, s128_39, s128_40, s128_41, s128_42, s128_43, s128_44, s128_45, s128_48, s128_49, s128_50, s128_53, s128_54, s128_57, s128_58, mco mZ.1, em, tw_bi_0, tw_gf, tw_sf, mZ.1, m_isIn, q, tw_bi_f, eb, tw_fit]
          exact fin _ e
    · have hX1 := hX.s1 (hk ^^^ bitI (nI j)) lw fl s0
      have hM1 := (hM.lo (a := 1) (by omega) (xC (nI nw) (hk ^^^ bitI (nI j)) lw (nI s0) fl)).s27 a1 a2 a3 (hk ^^^ bitI (nI j)) lw fl tr s0 ns nr (Nat.le_refl _)
      have hS1 := (hS.lo (a := 1) (by omega) (by omega) (xC (nI nw) (hk ^^^ bitI (nI j)) lw (nI s0) fl)).lo (a := 27) (by omega) (by omega) (mC fl (nI nt) (nI nw) (hk ^^^ bitI (nI j)) lw (nI s0) (-9) a1 a2 a3 (nI ns) (nI nr) tr)
      have hne : ¬ tw_bi (hasB hk (nI j)) = tw_bi is := fun z => q (by rw [tw_bi_inj] at z; exact z)
      refine ⟨.int 1, tw_set h 1 (xC (nI nw) (hk ^^^ bitI (nI j)) lw (nI s0) fl), _, ?_, ?_, ⟨nw, nt, s0, ns, nr, hk ^^^ bitI (nI j), lw, fl, tr, tfx, tfm, sw, sh, sa, f34, f35, r1, r2, r3, ft, fo, kd, wt, sz, ln, sf, g, hX1.hi (a := 27) (by omega) _, hS1, hM1, r8, r6, r0, rs, rW.xor r8 hj, rT, rN, rF⟩, by rw [tw_sg1, tw_sg1]; omega, by rw [tw_sg2, tw_sg2]; omega⟩
      · simp [s45_0, s45_1, s45_2, s45_5, s45_5n, s45_8, s45_9, s45_10, s45_11, s45_14, s45_15, s45_18, s45_19, s45_22, s45_23, s45_24, s45_25, s45_26, s45_29, s45_30, s45_33, s45_34, s45_37, s45_38, xco xX, ew, tw_gf, tw_sf, xX, x_has, x_bit, hne, tw_fit]
      · have gM : (tw_set h 1 (xC (nI nw) (hk ^^^ bitI (nI j)) lw (nI s0) fl)).2.2 27 = some (mC fl (nI nt) (nI nw) hk lw (nI s0) (-9) a1 a2 a3 (nI ns) (nI nr) tr) := by rw [tw_sg, if_neg (by decide)]; exact mZ.1
        have em2 := m_noWork gM (nI j)
        rw [decide_eq_true qk] at em2
        cases is with
        | true =>
          have qf : hasB hk (nI j) = false := by simpa using q
          simp [s128_0, s128_1, s128_2, s128_5, s128_8, s128_9, s128_10, s128_11, s128_14, s128_15, s128_18, s128_19, s128_20, s128_21, s128_24, s128_25, s128_28, s128_29, s128_30, s128_31, s128_32, s128_35, s128_36, s128_39, s128_40, s128_41, s128_42, s128_43, s128_44, s128_45, s128_48, s128_49, s128_50, s128_53, s128_54, s128_57, s128_58, mco gM, em2, tw_bi_0, tw_gf, tw_sf, gM, m_isIn, qf, tw_bi_t, tw_bi_f, eb, tw_fit, or_xor (show j < 32 by omega) qf]
        | false =>
          have qt : hasB hk (nI j) = true := by simpa using q
          simp [s128_0, s128_1, s128_2, s128_5, s128_8, s128_9, s128_10, s128_11, s128_14, s128_15, s128_18, s128_19, s128_20, s128_21, s128_24, s128_25, s128_28, s128_29, s128_30, s128_31, s128_32, s128_35, s128_36, s128_39, s128_40, s128_41, s128_42, s128_43, s128_44, s128_45, s128_48, s128_49, s128_50, s128_53, s128_54, s128_57, s128_58, mco gM, em2, tw_bi_0, tw_gf, tw_sf, gM, m_isIn, qt, tw_bi_t, tw_bi_f, eb, tw_fit, minus_xor (show j < 32 by omega) qt]
  · rw [(xWK.null r8 k).mpr qk] at ew
    rw [decide_eq_false qk] at em
    refine ⟨.int (-1), h, h, ?_, ?_, I, by omega, by omega⟩
    · simp [s45_0, s45_1, s45_2, s45_5, s45_5n, s45_8, s45_9, s45_10, s45_11, s45_14, s45_15, s45_18, s45_19, s45_22, s45_23, s45_24, s45_25, s45_26, s45_29, s45_30, s45_33, s45_34, s45_37, s45_38, xco xX, ew]
    · simp [s128_0, s128_1, s128_2, s128_5, s128_8, s128_9, s128_10, s128_11, s128_14, s128_15, s128_18, s128_19, s128_20, s128_21, s128_24, s128_25, s128_28, s128_29, s128_30, s128_31, s128_32, s128_35, s128_36, s128_39, s128_40, s128_41, s128_42, s128_43, s128_44, s128_45, s128_48, s128_49, s128_50, s128_53, s128_54, s128_57, s128_58, mco mZ.1, em, tw_bi_0]
theorem x_in2 (v c : Int32) : ((0 : Int64) ≤ v.toInt64 ∧ v.toInt64 ≤ c.toInt64) = (¬ v < 0 ∧ ¬ c < v) := by
  rw [l_ge v 0 0 rfl, l_le v c.toInt64 c rfl]
theorem c_calm (I : Inv h) (k : Int32) : Two h 50 [.ref 1, .int k] 131 [.ref 27, .int k] := by
  obtain ⟨nw, nt, s0, ns, nr, hk, lw, fl, tr, tfx, tfm, sw, sh, sa, f34, f35, r1, r2, r3, ft, fo, kd, wt, sz, ln, sf, g, hX, hS, hM, hR⟩ := id I
  obtain ⟨x44, xX, xS, xR, xK, ⟨oa, ob, xO⟩, ⟨lf, xL⟩, xW, xWK, xT, xTx⟩ := id hX
  obtain ⟨⟨a1, a2, a3, mZ⟩, mR, ⟨hd, mH⟩, ⟨mf, mL⟩, mA⟩ := id hM
  obtain ⟨r8, r6, r0, rs, rW, rT, rN, rF⟩ := id hR
  have et := x_takeBack xS.2.2.1 (by decide) k
  have c9 : tw_co h 9 = some 2 := xS.co9
  by_cases q : ¬ k < 0 ∧ ¬ nI ns < k
  · rw [if_neg (by intro z; rcases z with z | z; exact q.1 z; exact q.2 z)] at et
    obtain ⟨j, hj, rfl⟩ := nI_of q.1
    have n6 : ns ≤ 6 := xS.2.2.2.2.2.2
    have hle : j ≤ ns := by
      by_cases z : ns < j
      · exact absurd (nI_lt z hj) q.2
      · omega
    have esub : nI ns - nI j = nI (ns - j) := by
      rw [show nI ns = nI (ns - j) + nI j by rw [nI_add, Nat.sub_add_cancel hle]]
      exact Int32.add_sub_cancel _ _
    rw [esub] at et
    obtain ⟨H1, hH1⟩ : ∃ H1, H1 = tw_set h 9 (oC 2 [.int (nI (ns - j)), .ref 10, .ref 11, .ref 12]) := ⟨_, rfl⟩
    rw [← hH1] at et
    have hX1 : XI H1 nw nt s0 (ns - j) nr hk lw fl tr tfx sw sh sa r1 r2 r3 ft fo kd wt g := by
      obtain ⟨x1, x2, x3, x4, x5, ⟨oa, ob, x6⟩, ⟨lf, x7⟩, x8, x9, x10, ti, wo, pl, fr, si, co, A, B, C, x11⟩ := hX
      rw [hH1]
      refine ⟨x1, by rw [tw_sg, if_neg (by decide)]; exact x2, ?_, x4.set (by omega), x5.set (by decide), ⟨oa, ob, x6.set (by decide)⟩, ⟨lf, x7.set (by decide)⟩, by rw [tw_sg, if_neg (by decide)]; exact x8, x9.congr (Nat.le_refl _) (fun a h1 _ => by rw [tw_sg, if_neg (by omega)]), by rw [tw_sg, if_neg (by decide)]; exact x10, ti, wo, pl, fr, si, co, A, B, C, ?_⟩
      · unfold XS at x3 ⊢
        simp only [tw_sg]
        simp
        exact ⟨x3.1, x3.2.1, x3.2.2.2.1, x3.2.2.2.2.1, x3.2.2.2.2.2.1, by omega⟩
      · simp only [tw_sg]
        simpa using x11
    have gM : H1.2.2 27 = some (mC fl (nI nt) (nI nw) hk lw (nI s0) (-9) a1 a2 a3 (nI ns) (nI nr) tr) := by rw [hH1, tw_sg, if_neg (by decide)]; exact mZ.1
    have hi := m_in (nI j).toInt64 0 (nI ns).toInt64 H1
    rw [show decide ((0 : Int64) ≤ (nI j).toInt64 ∧ (nI j).toInt64 ≤ (nI ns).toInt64) = true from by rw [decide_eq_true_iff, x_in2]; exact q] at hi
    have hM1 := (hM.lo (a := 9) (by omega) (oC 2 [.int (nI (ns - j)), .ref 10, .ref 11, .ref 12])).s27 a1 a2 a3 hk lw fl tr s0 (ns - j) nr (Nat.le_refl _)
    have hS1 := hS.lo (a := 9) (by omega) (by omega) (oC 2 [.int (nI (ns - j)), .ref 10, .ref 11, .ref 12])
    rw [← hH1] at hM1 hS1
    refine ⟨.int (nI (ns - j)), H1, _, ?_, ?_, ⟨nw, nt, s0, ns - j, nr, hk, lw, fl, tr, tfx, tfm, sw, sh, sa, f34, f35, r1, r2, r3, ft, fo, kd, wt, sz, ln, sf, g, hX1.hi (a := 27) (by omega) _, hS1.lo (by omega) (by omega) _, hM1, r8, r6, r0, rs, rW, rT, fun x hx => rN x (by omega), rF⟩, by rw [tw_sg1, hH1, tw_sg1]; omega, by rw [tw_sg2, hH1, tw_sg2]; omega⟩
    · simp [s50_0, s50_1, s50_4, s50_7, s50_8, s50_11, tw_gf, xX, xS.1, c9, et]
    · simp [s131_0, s131_1, s131_2, s131_3, s131_4, s131_7, s131_8, s131_11, s131_14, s131_16, s131_17, s131_18, s131_19, s131_22, s131_23, s131_24, s131_27, s131_28, s131_31, tw_gf, tw_sf, gM, hi, tw_bi_0, tw_fit, esub, tw_sg]
  · rw [if_pos (by by_cases z : k < 0; exact Or.inl z; right; by_cases y : nI ns < k; exact y; exact absurd ⟨z, y⟩ q)] at et
    have hi := m_in k.toInt64 0 (nI ns).toInt64 h
    rw [show decide ((0 : Int64) ≤ k.toInt64 ∧ k.toInt64 ≤ (nI ns).toInt64) = false from by rw [decide_eq_false_iff_not, x_in2]; exact q] at hi
    refine ⟨.int (-2), h, h, ?_, ?_, I, by omega, by omega⟩
    · simp [s50_0, s50_1, s50_4, s50_7, s50_8, s50_11, tw_gf, xX, xS.1, c9, et]
    · simp [s131_0, s131_1, s131_2, s131_3, s131_4, s131_7, s131_8, s131_11, s131_14, s131_16, s131_17, s131_18, s131_19, s131_22, s131_23, s131_24, s131_27, s131_28, s131_31, tw_gf, mZ.1, hi, tw_bi_0]
theorem c_back (I : Inv h) (k : Int32) : Two h 78 [.ref 1, .int k] 155 [.ref 27, .int k] := by
  obtain ⟨nw, nt, s0, ns, nr, hk, lw, fl, tr, tfx, tfm, sw, sh, sa, f34, f35, r1, r2, r3, ft, fo, kd, wt, sz, ln, sf, g, hX, hS, hM, hR⟩ := id I
  obtain ⟨x44, xX, xS, xR, xK, ⟨oa, ob, xO⟩, ⟨lf, xL⟩, xW, xWK, xT, xTx⟩ := id hX
  obtain ⟨⟨a1, a2, a3, mZ⟩, mR, ⟨hd, mH⟩, ⟨mf, mL⟩, mA⟩ := id hM
  obtain ⟨r8, r6, r0, rs, rW, rT, rN, rF⟩ := id hR
  have et := x_takeBack xR.1 (by decide) k
  have c9 : tw_co h 14 = some 2 := xR.co
  by_cases q : ¬ k < 0 ∧ ¬ nI nr < k
  · rw [if_neg (by intro z; rcases z with z | z; exact q.1 z; exact q.2 z)] at et
    obtain ⟨j, hj, rfl⟩ := nI_of q.1
    have n6 : nr ≤ 8 := xR.2.2.2.2
    have hle : j ≤ nr := by
      by_cases z : nr < j
      · exact absurd (nI_lt z hj) q.2
      · omega
    have esub : nI nr - nI j = nI (nr - j) := by
      rw [show nI nr = nI (nr - j) + nI j by rw [nI_add, Nat.sub_add_cancel hle]]
      exact Int32.add_sub_cancel _ _
    rw [esub] at et
    obtain ⟨H1, hH1⟩ : ∃ H1, H1 = tw_set h 14 (oC 2 [.int (nI (nr - j)), .ref 15, .ref 16, .ref 17]) := ⟨_, rfl⟩
    rw [← hH1] at et
    have hX1 : XI H1 nw nt s0 ns (nr - j) hk lw fl tr tfx sw sh sa r1 r2 r3 ft fo kd wt g := by
      obtain ⟨x1, x2, x3, x4, x5, ⟨oa, ob, x6⟩, ⟨lf, x7⟩, x8, x9, x10, ti, wo, pl, fr, si, co, A, B, C, x11⟩ := hX
      rw [hH1]
      refine ⟨x1, by rw [tw_sg, if_neg (by decide)]; exact x2, x3.set (by omega), ?_, x5.set (by decide), ⟨oa, ob, x6.set (by decide)⟩, ⟨lf, x7.set (by decide)⟩, by rw [tw_sg, if_neg (by decide)]; exact x8, x9.congr (Nat.le_refl _) (fun a h1 _ => by rw [tw_sg, if_neg (by omega)]), by rw [tw_sg, if_neg (by decide)]; exact x10, ti, wo, pl, fr, si, co, A, B, C, ?_⟩
      · unfold XR at x4 ⊢
        simp only [tw_sg]
        simp
        exact ⟨x4.2.1, x4.2.2.1, x4.2.2.2.1, by omega⟩
      · simp only [tw_sg]
        simpa using x11
    have gM : H1.2.2 27 = some (mC fl (nI nt) (nI nw) hk lw (nI s0) (-9) a1 a2 a3 (nI ns) (nI nr) tr) := by rw [hH1, tw_sg, if_neg (by decide)]; exact mZ.1
    have hi := m_in (nI j).toInt64 0 (nI nr).toInt64 H1
    rw [show decide ((0 : Int64) ≤ (nI j).toInt64 ∧ (nI j).toInt64 ≤ (nI nr).toInt64) = true from by rw [decide_eq_true_iff, x_in2]; exact q] at hi
    have hM1 := (hM.lo (a := 14) (by omega) (oC 2 [.int (nI (nr - j)), .ref 15, .ref 16, .ref 17])).s27 a1 a2 a3 hk lw fl tr s0 ns (nr - j) (Nat.sub_le _ _)
    have hS1 := hS.lo (a := 14) (by omega) (by omega) (oC 2 [.int (nI (nr - j)), .ref 15, .ref 16, .ref 17])
    rw [← hH1] at hM1 hS1
    refine ⟨.int (nI (nr - j)), H1, _, ?_, ?_, ⟨nw, nt, s0, ns, nr - j, hk, lw, fl, tr, tfx, tfm, sw, sh, sa, f34, f35, r1, r2, r3, ft, fo, kd, wt, sz, ln, sf, g, hX1.hi (a := 27) (by omega) _, hS1.lo (by omega) (by omega) _, hM1, r8, r6, r0, rs, rW, rT, rN, rF⟩, by rw [tw_sg1, hH1, tw_sg1]; omega, by rw [tw_sg2, hH1, tw_sg2]; omega⟩
    · simp [s78_0, s78_1, s78_4, s78_5, s78_8, tw_gf, xX, c9, et]
    · simp [s155_0, s155_1, s155_2, s155_3, s155_4, s155_7, s155_8, s155_11, s155_14, s155_16, s155_17, s155_18, s155_19, s155_22, s155_23, s155_24, s155_27, s155_28, s155_31, tw_gf, tw_sf, gM, hi, tw_bi_0, tw_fit, esub, tw_sg]
  · rw [if_pos (by by_cases z : k < 0; exact Or.inl z; right; by_cases y : nI nr < k; exact y; exact absurd ⟨z, y⟩ q)] at et
    have hi := m_in k.toInt64 0 (nI nr).toInt64 h
    rw [show decide ((0 : Int64) ≤ k.toInt64 ∧ k.toInt64 ≤ (nI nr).toInt64) = false from by rw [decide_eq_false_iff_not, x_in2]; exact q] at hi
    refine ⟨.int (-2), h, h, ?_, ?_, I, by omega, by omega⟩
    · simp [s78_0, s78_1, s78_4, s78_5, s78_8, tw_gf, xX, c9, et]
    · simp [s155_0, s155_1, s155_2, s155_3, s155_4, s155_7, s155_8, s155_11, s155_14, s155_16, s155_17, s155_18, s155_19, s155_22, s155_23, s155_24, s155_27, s155_28, s155_31, tw_gf, mZ.1, hi, tw_bi_0]
theorem c_many (I : Inv h) (what : Int32) : Two h 107 [.ref 1, .int what] 177 [.ref 27, .int what] := by
  obtain ⟨nw, nt, s0, ns, nr, hk, lw, fl, tr, tfx, tfm, sw, sh, sa, f34, f35, r1, r2, r3, ft, fo, kd, wt, sz, ln, sf, g, hX, hS, hM, hR⟩ := id I
  obtain ⟨x44, xX, xS, xR, xK, ⟨oa, ob, xO⟩, ⟨lf, xL⟩, xW, xWK, xT, xTx⟩ := id hX
  obtain ⟨⟨a1, a2, a3, mZ⟩, mR, ⟨hd, mH⟩, ⟨mf, mL⟩, mA⟩ := id hM
  obtain ⟨r8, r6, r0, rs, rW, rT, rN, rF⟩ := id hR
  by_cases q0 : what = 0
  · exact ⟨.int (nI nw), h, h, by simp [s107_0, s107_1, s107_40, s107_41, s107_44, s107_45, s107_46, s107_49, s107_52, s107_53, s107_54, s107_57, s107_60, s107_63, s107_64, s107_65, s107_68, s107_71, s107_72, s107_73, s107_76, s107_77, s107_78, s107_81, s107_82, s107_84, q0, tw_gf, xX], by simp [s177_0, s177_1, s177_40, s177_41, s177_44, s177_45, s177_46, s177_49, s177_50, s177_51, s177_54, s177_55, s177_56, s177_59, s177_60, s177_61, s177_64, s177_65, s177_66, s177_69, s177_70, s177_72, q0, tw_gf, mZ.1], I, by omega, by omega⟩
  by_cases q1 : what = 1
  · exact ⟨.int (nI nt), h, h, by simp [s107_0, s107_1, s107_40, s107_41, s107_44, s107_45, s107_46, s107_49, s107_52, s107_53, s107_54, s107_57, s107_60, s107_63, s107_64, s107_65, s107_68, s107_71, s107_72, s107_73, s107_76, s107_77, s107_78, s107_81, s107_82, s107_84, q1, tw_gf, xX, xS.1], by simp [s177_0, s177_1, s177_40, s177_41, s177_44, s177_45, s177_46, s177_49, s177_50, s177_51, s177_54, s177_55, s177_56, s177_59, s177_60, s177_61, s177_64, s177_65, s177_66, s177_69, s177_70, s177_72, q1, tw_gf, mZ.1], I, by omega, by omega⟩
  by_cases q2 : what = 2
  · exact ⟨.int (nI ns), h, h, by simp [s107_0, s107_1, s107_40, s107_41, s107_44, s107_45, s107_46, s107_49, s107_52, s107_53, s107_54, s107_57, s107_60, s107_63, s107_64, s107_65, s107_68, s107_71, s107_72, s107_73, s107_76, s107_77, s107_78, s107_81, s107_82, s107_84, q2, tw_gf, xX, xS.1, xS.2.2.1], by simp [s177_0, s177_1, s177_40, s177_41, s177_44, s177_45, s177_46, s177_49, s177_50, s177_51, s177_54, s177_55, s177_56, s177_59, s177_60, s177_61, s177_64, s177_65, s177_66, s177_69, s177_70, s177_72, q2, tw_gf, mZ.1], I, by omega, by omega⟩
  by_cases q3 : what = 3
  · exact ⟨.int (nI nr), h, h, by simp [s107_0, s107_1, s107_40, s107_41, s107_44, s107_45, s107_46, s107_49, s107_52, s107_53, s107_54, s107_57, s107_60, s107_63, s107_64, s107_65, s107_68, s107_71, s107_72, s107_73, s107_76, s107_77, s107_78, s107_81, s107_82, s107_84, q3, tw_gf, xX, xR.1], by simp [s177_0, s177_1, s177_40, s177_41, s177_44, s177_45, s177_46, s177_49, s177_50, s177_51, s177_54, s177_55, s177_56, s177_59, s177_60, s177_61, s177_64, s177_65, s177_66, s177_69, s177_70, s177_72, q3, tw_gf, mZ.1], I, by omega, by omega⟩
  by_cases q4 : what = 4
  · exact ⟨.int lw, h, h, by simp [s107_0, s107_1, s107_40, s107_41, s107_44, s107_45, s107_46, s107_49, s107_52, s107_53, s107_54, s107_57, s107_60, s107_63, s107_64, s107_65, s107_68, s107_71, s107_72, s107_73, s107_76, s107_77, s107_78, s107_81, s107_82, s107_84, q4, tw_gf, xX], by simp [s177_0, s177_1, s177_40, s177_41, s177_44, s177_45, s177_46, s177_49, s177_50, s177_51, s177_54, s177_55, s177_56, s177_59, s177_60, s177_61, s177_64, s177_65, s177_66, s177_69, s177_70, s177_72, q4, tw_gf, mZ.1], I, by omega, by omega⟩
  by_cases q5 : what = 5
  · exact ⟨.int (nI s0), h, h, by simp [s107_0, s107_1, s107_40, s107_41, s107_44, s107_45, s107_46, s107_49, s107_52, s107_53, s107_54, s107_57, s107_60, s107_63, s107_64, s107_65, s107_68, s107_71, s107_72, s107_73, s107_76, s107_77, s107_78, s107_81, s107_82, s107_84, q5, tw_gf, xX], by simp [s177_0, s177_1, s177_40, s177_41, s177_44, s177_45, s177_46, s177_49, s177_50, s177_51, s177_54, s177_55, s177_56, s177_59, s177_60, s177_61, s177_64, s177_65, s177_66, s177_69, s177_70, s177_72, q5, tw_gf, mZ.1], I, by omega, by omega⟩
  exact ⟨.int (-2), h, h, by simp [s107_0, s107_1, s107_40, s107_41, s107_44, s107_45, s107_46, s107_49, s107_52, s107_53, s107_54, s107_57, s107_60, s107_63, s107_64, s107_65, s107_68, s107_71, s107_72, s107_73, s107_76, s107_77, s107_78, s107_81, s107_82, s107_84, q0, q1, q2, q3, q4, q5], by simp [s177_0, s177_1, s177_40, s177_41, s177_44, s177_45, s177_46, s177_49, s177_50, s177_51, s177_54, s177_55, s177_56, s177_59, s177_60, s177_61, s177_64, s177_65, s177_66, s177_69, s177_70, s177_72, q0, q1, q2, q3, q4, q5], I, by omega, by omega⟩
theorem c_trace (I : Inv h) : Two h 105 [.ref 1] 175 [.ref 27] := by
  obtain ⟨nw, nt, s0, ns, nr, hk, lw, fl, tr, tfx, tfm, sw, sh, sa, f34, f35, r1, r2, r3, ft, fo, kd, wt, sz, ln, sf, g, hX, hS, hM, hR⟩ := id I
  obtain ⟨x44, xX, xS, xR, xK, ⟨oa, ob, xO⟩, ⟨lf, xL⟩, xW, xWK, xT, xTx⟩ := id hX
  obtain ⟨⟨a1, a2, a3, mZ⟩, mR, ⟨hd, mH⟩, ⟨mf, mL⟩, mA⟩ := id hM
  obtain ⟨r8, r6, r0, rs, rW, rT, rN, rF⟩ := id hR
  exact ⟨.int tr, h, h, by simp [s105_0, s105_1, s105_4, s105_7, tw_gf, xX, xT], by simp [s175_0, s175_1, s175_4, tw_gf, mZ.1], I, by omega, by omega⟩
theorem c_fault (I : Inv h) : Two h 106 [.ref 1] 176 [.ref 27] := by
  obtain ⟨nw, nt, s0, ns, nr, hk, lw, fl, tr, tfx, tfm, sw, sh, sa, f34, f35, r1, r2, r3, ft, fo, kd, wt, sz, ln, sf, g, hX, hS, hM, hR⟩ := id I
  obtain ⟨x44, xX, xS, xR, xK, ⟨oa, ob, xO⟩, ⟨lf, xL⟩, xW, xWK, xT, xTx⟩ := id hX
  obtain ⟨⟨a1, a2, a3, mZ⟩, mR, ⟨hd, mH⟩, ⟨mf, mL⟩, mA⟩ := id hM
  obtain ⟨r8, r6, r0, rs, rW, rT, rN, rF⟩ := id hR
  exact ⟨.int fl, h, h, by simp [s106_0, s106_1, s106_4, tw_gf, xX], by simp [s176_0, s176_1, s176_4, tw_gf, mZ.1], I, by omega, by omega⟩
end I6
