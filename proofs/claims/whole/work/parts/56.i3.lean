/-! the calls that ask, on -/
theorem Wn.and {nw : Nat} {set : Int32} (h8 : nw ≤ 8) (h : Wn nw set) (x : Int32) : Wn nw (set &&& x) := by
  obtain ⟨m, hm, rfl⟩ := h
  have h256 : 2 ^ nw ≤ 2 ^ 8 := Nat.pow_le_pow_right (show 0 < 2 by decide) h8
  have hle : m &&& x.toBitVec.toNat ≤ m := Nat.and_le_left
  refine ⟨m &&& x.toBitVec.toNat, by omega, ?_⟩
  rw [← Int32.toBitVec_inj, Int32.toBitVec_and]
  apply BitVec.eq_of_toNat_eq
  show ((BitVec.ofNat 32 m) &&& x.toBitVec).toNat = (BitVec.ofNat 32 (m &&& x.toBitVec.toNat)).toNat
  rw [BitVec.toNat_and, BitVec.toNat_ofNat, BitVec.toNat_ofNat, Nat.mod_eq_of_lt (show m < 2 ^ 32 by omega), Nat.mod_eq_of_lt (by omega)]
theorem aT_out {T : Nat → Int32} {j : Nat} (hj : j < 8) : aT T (-1) j = aT T (-9) j := by
  unfold aT
  rw [if_neg (nI_ne (by omega) (by decide)), if_neg (nI_ne (by omega) (by decide))]
theorem odZ_out {T : Nat → Int32} {law : Int32} {j : Nat} (hj : j < 8) : odZ (aT T (-1)) law j = odZ (aT T (-9)) law j := orF_odZ (fun _ hi => aT_out hi) law (fun _ => 0) j hj
section I3
variable {h : tw_H}
theorem Inv.q3 {h1 h2 : tw_H} {nw nt s0 ns nr : Nat} {hk lw fl tr : Int32} {tfx tfm sw sh sa f34 f35 rw rh ra ft fo kd wt sz ln sf : Nat → Int32} {g : Nat → Option Nat} (hX : XI h nw nt s0 ns nr hk lw fl tr tfx sw sh sa rw rh ra ft fo kd wt g) (hS : SI h sz ln sf) (hM : MI h nw nt s0 ns nr hk lw fl tr tfm f34 f35 rw rh ra kd wt sz ln sf) (hR : RI nw nt s0 ns nr hk lw tfx tfm sh sa f34 f35 ft fo kd wt) {a b f f' : Nat → Int32} (e1 : h1 = m3 h a b f) (e2 : h2 = tw_set h1 36 (iC 8 f')) : Inv h2 := by
  have e11 : h1.1 = h.1 := by rw [e1]; rfl
  have e1o : ∀ a, a ≠ 23 ∧ a ≠ 24 ∧ a ≠ 26 → h1.2.2 a = h.2.2 a := fun a ha => by rw [e1, m3_o ha]
  have hX1 : XI h1 nw nt s0 ns nr hk lw fl tr tfx sw sh sa rw rh ra ft fo kd wt g := hX.scr e11 e1o (by rw [e1]; exact m3_23) (by rw [e1]; exact m3_24) (by rw [e1]; exact m3_26)
  have hS1 : SI h1 sz ln sf := hS.congr (by omega) (e1o 2 (by decide)) (fun a h1 _ => e1o a (by omega))
  have hM1 : MI h1 nw nt s0 ns nr hk lw fl tr tfm f34 f35 rw rh ra kd wt sz ln sf := hM.congr (fun a h1 h2 => e1o a (by omega))
  exact ⟨nw, nt, s0, ns, nr, hk, lw, fl, tr, tfx, tfm, sw, sh, sa, f34, f35, rw, rh, ra, ft, fo, kd, wt, sz, ln, sf, g, hX1.congr (by rw [e2, tw_sg1]) (fun a ha => by rw [e2, tw_sg, if_neg (by omega)]), hS1.congr (by rw [e2, tw_sg1]; exact Nat.le_refl _) (by rw [e2, tw_sg, if_neg (by decide)]) (fun a h1 _ => by rw [e2, tw_sg, if_neg (by omega)]), hM1.scr (fun a ha => by rw [e2, tw_sg, if_neg ha]) (by rw [e2, tw_sg, if_pos rfl]), hR⟩
theorem c_fewest (I : Inv h) (k a e : Int32) : Two h 67 [.ref 1, .int k, .int a, .int e, tw_un, tw_un, tw_un, tw_un, tw_un, tw_un] 147 [.ref 27, .int k, .int a, .int e, tw_un, tw_un, tw_un, tw_un] := by
  obtain ⟨nw, nt, s0, ns, nr, hk, lw, fl, tr, tfx, tfm, sw, sh, sa, f34, f35, r1, r2, r3, ft, fo, kd, wt, sz, ln, sf, g, hX, hS, hM, hR⟩ := id I
  obtain ⟨x44, xX, xS, xR, xK, ⟨oa, ob, xO⟩, ⟨lf, xL⟩, xW, xWK, xT, xTx⟩ := id hX
  obtain ⟨⟨a1, a2, a3, mZ⟩, mR, ⟨hd, mH⟩, ⟨mf, mL⟩, mA⟩ := id hM
  obtain ⟨r8, r6, r0, rs, rW, rT, rN, rF⟩ := id hR
  have em := m_noWork mZ.1 k
  by_cases qk : ¬ k < 0 ∧ k < nI nw
  · obtain ⟨j, hj, rfl⟩ := xWK.isref r8 qk
    obtain ⟨w, wa, _⟩ := xWK.ref r8 hj
    rw [decide_eq_true qk] at em
    have hw : 0 < nw := by omega
    have n0 : 0 < nt := by
      by_cases z : nt = 0
      · have := r0.mpr z; omega
      · omega
    have hs0 := rs hw
    have hT := tid_ok n0 r6 hs0
    have hf1 := fun j (hj : j < 8) => (rF hw j hj).1
    have hf2 := fun j (hj : j < 8) => (rF hw j hj).2
    have wne : ¬ nI nw = 0 := nI_ne0 hw (by omega)
    have n6 : ns ≤ 6 := xS.2.2.2.2.2.2
    have hst := st_eq (hk := hk) (sh := sh) (sa := sa) (f34 := f34) (f35 := f35) n0 r6 hs0 rT rN hf1 hf2
    have hstr := fun s (hs : s < 60) => str_eq (sh := sh) (sa := sa) (f34 := f34) (f35 := f35) n0 r6 hs0 rT rN hs
    by_cases q : (¬ a < 0 ∧ a < 60) ∧ (¬ e < 0 ∧ e < 60) ∧ ¬ e < a
    · by_cases qh : hasB hk (nI j) = true
      · obtain ⟨⟨qa, qe, qae⟩⟩ := And.intro q trivial
        obtain ⟨s1, hs1, rfl⟩ := hour_of qa
        obtain ⟨s2, hs2, rfl⟩ := hour_of qe
        have hle : s1 ≤ s2 := by
          by_cases z : s2 < s1
          · exact absurd (nI_lt z (by omega)) qae
          · omega
        obtain ⟨m, hm, ho⟩ := rW.and r8 (bitI (nI j) ^^^ -1)
        have h256 : 2 ^ nw ≤ 2 ^ 8 := Nat.pow_le_pow_right (show 0 < 2 by decide) r8
        have ex := x_fewest xX xS xK xW wa hle hs2 qh (m := m) (by omega) ho
        rw [← wkF_congr hstr hle hs2] at ex
        refine ⟨_, h, h, ex, ?_, I, by omega, by omega⟩
        exact m_fewest mZ r8 (by omega) rW.hb hT hj hle hs2 qh (fun i hi => (hf1 i hi).symm) (fun i hi => (hf2 i hi).symm) hm ho
      · have ex := x_fewest_n xX xW wa q qh
        have qh' : hasB hk (nI j) = false := by simpa using qh
        refine ⟨_, h, h, ex, ?_, I, by omega, by omega⟩
        simp [s147_0, s147_1, s147_2, s147_5, s147_8, s147_9, s147_10, s147_11, s147_14, s147_17, s147_18, s147_21, s147_24, s147_25, s147_26, s147_29, s147_31, s147_32, s147_33, s147_36, s147_38, s147_40, s147_42, s147_43, s147_47, s147_48, s147_51, s147_54, s147_56, s147_57, s147_60, s147_63, s147_65, s147_67, s147_68, s147_69, s147_70, s147_73, s147_75, s147_76, s147_79, s147_82, s147_84, s147_87, s147_89, s147_92, s147_94, s147_97, s147_100, s147_101, s147_104, s147_105, s147_107, s147_109, s147_112, s147_113, s147_115, s147_117, s147_118, s147_119, s147_120, s147_123, s147_124, s147_125, s147_126, s147_127, s147_130, s147_133, s147_135, s147_138, s147_140, s147_142, s147_145, s147_148, s147_149, s147_151, s147_154, s147_156, mco mZ.1, em, m_isHour, tw_bi_0, q.1, q.2.1, q.2.2, tw_gf, mZ.1]
        rw [s147_45]
        by_cases qe : bitI (nI nw) - 1 < 0
        · simp [s147_0, s147_1, s147_2, s147_5, s147_8, s147_9, s147_10, s147_11, s147_14, s147_17, s147_18, s147_21, s147_24, s147_25, s147_26, s147_29, s147_31, s147_32, s147_33, s147_36, s147_38, s147_40, s147_42, s147_43, s147_47, s147_48, s147_51, s147_54, s147_56, s147_57, s147_60, s147_63, s147_65, s147_67, s147_68, s147_69, s147_70, s147_73, s147_75, s147_76, s147_79, s147_82, s147_84, s147_87, s147_89, s147_92, s147_94, s147_97, s147_100, s147_101, s147_104, s147_105, s147_107, s147_109, s147_112, s147_113, s147_115, s147_117, s147_118, s147_119, s147_120, s147_123, s147_124, s147_125, s147_126, s147_127, s147_130, s147_133, s147_135, s147_138, s147_140, s147_142, s147_145, s147_148, s147_149, s147_151, s147_154, s147_156, mco mZ.1, m_every mZ.1, qe, tw_sf, mZ.1, tw_fit, tw_si h mZ.1]
        · simp [s147_0, s147_1, s147_2, s147_5, s147_8, s147_9, s147_10, s147_11, s147_14, s147_17, s147_18, s147_21, s147_24, s147_25, s147_26, s147_29, s147_31, s147_32, s147_33, s147_36, s147_38, s147_40, s147_42, s147_43, s147_47, s147_48, s147_51, s147_54, s147_56, s147_57, s147_60, s147_63, s147_65, s147_67, s147_68, s147_69, s147_70, s147_73, s147_75, s147_76, s147_79, s147_82, s147_84, s147_87, s147_89, s147_92, s147_94, s147_97, s147_100, s147_101, s147_104, s147_105, s147_107, s147_109, s147_112, s147_113, s147_115, s147_117, s147_118, s147_119, s147_120, s147_123, s147_124, s147_125, s147_126, s147_127, s147_130, s147_133, s147_135, s147_138, s147_140, s147_142, s147_145, s147_148, s147_149, s147_151, s147_154, s147_156, mco mZ.1, m_every mZ.1, qe, m_isIn, tw_bi_0, qh', tw_sf, mZ.1, tw_fit, tw_si h mZ.1]
    · have ex := x_fewest_o xX xW wa a e q
      refine ⟨_, h, h, ex, ?_, I, by omega, by omega⟩
      have ea := m_isHour a h
      have ee := m_isHour e h
      by_cases q1 : ¬ a < 0 ∧ a < 60
      · rw [decide_eq_true q1] at ea
        by_cases q2 : ¬ e < 0 ∧ e < 60
        · rw [decide_eq_true q2] at ee
          have q3 : e < a := by
            by_cases z : e < a
            · exact z
            · exact absurd ⟨q1, q2, z⟩ q
          simp [s147_0, s147_1, s147_2, s147_5, s147_8, s147_9, s147_10, s147_11, s147_14, s147_17, s147_18, s147_21, s147_24, s147_25, s147_26, s147_29, s147_31, s147_32, s147_33, s147_36, s147_38, s147_40, s147_42, s147_43, s147_47, s147_48, s147_51, s147_54, s147_56, s147_57, s147_60, s147_63, s147_65, s147_67, s147_68, s147_69, s147_70, s147_73, s147_75, s147_76, s147_79, s147_82, s147_84, s147_87, s147_89, s147_92, s147_94, s147_97, s147_100, s147_101, s147_104, s147_105, s147_107, s147_109, s147_112, s147_113, s147_115, s147_117, s147_118, s147_119, s147_120, s147_123, s147_124, s147_125, s147_126, s147_127, s147_130, s147_133, s147_135, s147_138, s147_140, s147_142, s147_145, s147_148, s147_149, s147_151, s147_154, s147_156, mco mZ.1, em, ea, ee, tw_bi_0, q3]
        · rw [decide_eq_false q2] at ee
          simp [s147_0, s147_1, s147_2, s147_5, s147_8, s147_9, s147_10, s147_11, s147_14, s147_17, s147_18, s147_21, s147_24, s147_25, s147_26, s147_29, s147_31, s147_32, s147_33, s147_36, s147_38, s147_40, s147_42, s147_43, s147_47, s147_48, s147_51, s147_54, s147_56, s147_57, s147_60, s147_63, s147_65, s147_67, s147_68, s147_69, s147_70, s147_73, s147_75, s147_76, s147_79, s147_82, s147_84, s147_87, s147_89, s147_92, s147_94, s147_97, s147_100, s147_101, s147_104, s147_105, s147_107, s147_109, s147_112, s147_113, s147_115, s147_117, s147_118, s147_119, s147_120, s147_123, s147_124, s147_125, s147_126, s147_127, s147_130, s147_133, s147_135, s147_138, s147_140, s147_142, s147_145, s147_148, s147_149, s147_151, s147_154, s147_156, mco mZ.1, em, ea, ee, tw_bi_0]
      · rw [decide_eq_false q1] at ea
        simp [s147_0, s147_1, s147_2, s147_5, s147_8, s147_9, s147_10, s147_11, s147_14, s147_17, s147_18, s147_21, s147_24, s147_25, s147_26, s147_29, s147_31, s147_32, s147_33, s147_36, s147_38, s147_40, s147_42, s147_43, s147_47, s147_48, s147_51, s147_54, s147_56, s147_57, s147_60, s147_63, s147_65, s147_67, s147_68, s147_69, s147_70, s147_73, s147_75, s147_76, s147_79, s147_82, s147_84, s147_87, s147_89, s147_92, s147_94, s147_97, s147_100, s147_101, s147_104, s147_105, s147_107, s147_109, s147_112, s147_113, s147_115, s147_117, s147_118, s147_119, s147_120, s147_123, s147_124, s147_125, s147_126, s147_127, s147_130, s147_133, s147_135, s147_138, s147_140, s147_142, s147_145, s147_148, s147_149, s147_151, s147_154, s147_156, mco mZ.1, em, ea, tw_bi_0]
  · have ex := x_fewest_u xX xW ((xWK.null r8 k).mpr qk) a e
    rw [decide_eq_false qk] at em
    refine ⟨_, h, h, ex, ?_, I, by omega, by omega⟩
    simp [s147_0, s147_1, s147_2, s147_5, s147_8, s147_9, s147_10, s147_11, s147_14, s147_17, s147_18, s147_21, s147_24, s147_25, s147_26, s147_29, s147_31, s147_32, s147_33, s147_36, s147_38, s147_40, s147_42, s147_43, s147_47, s147_48, s147_51, s147_54, s147_56, s147_57, s147_60, s147_63, s147_65, s147_67, s147_68, s147_69, s147_70, s147_73, s147_75, s147_76, s147_79, s147_82, s147_84, s147_87, s147_89, s147_92, s147_94, s147_97, s147_100, s147_101, s147_104, s147_105, s147_107, s147_109, s147_112, s147_113, s147_115, s147_117, s147_118, s147_119, s147_120, s147_123, s147_124, s147_125, s147_126, s147_127, s147_130, s147_133, s147_135, s147_138, s147_140, s147_142, s147_145, s147_148, s147_149, s147_151, s147_154, s147_156, mco mZ.1, em, tw_bi_0]
theorem c_help (I : Inv h) (v what : Int32) : Two h 70 [.ref 1, .int v, .int what, tw_un, tw_un, tw_un, tw_un, tw_un, tw_un] 150 [.ref 27, .int v, .int what, tw_un, tw_un, tw_un, tw_un] := by
  obtain ⟨nw, nt, s0, ns, nr, hk, lw, fl, tr, tfx, tfm, sw, sh, sa, f34, f35, r1, r2, r3, ft, fo, kd, wt, sz, ln, sf, g, hX, hS, hM, hR⟩ := id I
  obtain ⟨x44, xX, xS, xR, xK, ⟨oa, ob, xO⟩, ⟨lf, xL⟩, xW, xWK, xT, xTx⟩ := id hX
  obtain ⟨⟨a1, a2, a3, mZ⟩, mR, ⟨hd, mH⟩, ⟨mf, mL⟩, mA⟩ := id hM
  obtain ⟨r8, r6, r0, rs, rW, rT, rN, rF⟩ := id hR
  have i1 : ((-59 : Int64) ≤ v.toInt64) = ¬ v < -59 := l_ge v (-59) (-59) rfl
  have i2 : (v.toInt64 ≤ (59 : Int64)) = ¬ 59 < v := l_le v 59 59 rfl
  have i3 : ((0 : Int64) ≤ what.toInt64) = ¬ what < 0 := l_ge what 0 0 rfl
  have i4 : (what.toInt64 ≤ (1 : Int64)) = ¬ 1 < what := l_le what 1 1 rfl
  have hi1 := m_in v.toInt64 (-59) 59 h
  have hi2 := m_in what.toInt64 0 1 h
  by_cases q : (¬ v < -59 ∧ ¬ 59 < v) ∧ (¬ what < 0 ∧ ¬ 1 < what)
  · rw [show decide ((-59 : Int64) ≤ v.toInt64 ∧ v.toInt64 ≤ 59) = true from by rw [decide_eq_true_iff, i1, i2]; exact q.1] at hi1
    rw [show decide ((0 : Int64) ≤ what.toInt64 ∧ what.toInt64 ≤ 1) = true from by rw [decide_eq_true_iff, i3, i4]; exact q.2] at hi2
    by_cases hw0 : nw = 0
    · have w0 : nI nw = 0 := by rw [hw0]; rfl
      have ex := x_help_no xX v what (Or.inr w0)
      rw [if_pos q] at ex
      refine ⟨_, h, h, ex, ?_, I, by omega, by omega⟩
      simp [s150_0, s150_1, s150_2, s150_5, s150_8, s150_11, s150_14, s150_15, s150_16, s150_17, s150_18, s150_21, s150_24, s150_26, s150_27, s150_28, s150_31, s150_34, s150_36, s150_37, s150_39, s150_40, s150_41, s150_44, s150_46, s150_47, s150_48, s150_51, s150_52, s150_53, s150_56, s150_57, s150_60, s150_61, s150_64, s150_65, s150_66, s150_67, s150_68, s150_69, s150_73, s150_75, s150_78, s150_79, s150_82, s150_83, s150_86, s150_87, s150_88, s150_90, s150_91, s150_92, s150_95, s150_97, s150_99, s150_101, s150_104, s150_106, s150_109, s150_110, s150_111, s150_113, s150_115, s150_118, s150_120, s150_123, s150_125, s150_127, s150_130, s150_133, s150_134, s150_135, s150_138, s150_139, s150_140, s150_143, s150_144, s150_147, s150_148, s150_151, s150_153, hi1, hi2, tw_bi_0, tw_gf, mZ.1, w0]
    have hw : 0 < nw := by omega
    have n0 : 0 < nt := by
      by_cases z : nt = 0
      · have := r0.mpr z; omega
      · omega
    have hs0 := rs hw
    have hT := tid_ok n0 r6 hs0
    have hf1 := fun j (hj : j < 8) => (rF hw j hj).1
    have hf2 := fun j (hj : j < 8) => (rF hw j hj).2
    have wne : ¬ nI nw = 0 := nI_ne0 hw (by omega)
    have n6 : ns ≤ 6 := xS.2.2.2.2.2.2
    have hst := st_eq (hk := hk) (sh := sh) (sa := sa) (f34 := f34) (f35 := f35) n0 r6 hs0 rT rN hf1 hf2
    have hstr := fun s (hs : s < 60) => str_eq (sh := sh) (sa := sa) (f34 := f34) (f35 := f35) n0 r6 hs0 rT rN hs
    have ex := x_help xX xS xK v what q.1 q.2 wne
    rw [help_eq n0 r6 hs0 rT rN hf1 hf2 v what] at ex
    obtain ⟨a', f', em, ha⟩ := m_help mZ r8 n6 rW.hb (rW.sml r8) hT mL v what q.1 q.2 wne
    refine ⟨_, h, _, ex, em, ?_, Nat.le_add_right _ _, Nat.le_add_right _ _⟩
    obtain ⟨H2, hH2⟩ : ∃ H2, H2 = m4 h (mC fl (nI nt) (nI nw) hk lw (nI s0) (-9) a1 a2 a3 (nI ns) (nI nr) tr) a' (upd f35 ns v) f' := ⟨_, rfl⟩
    rw [← hH2]
    have o2 : ∀ a, a ≠ 27 ∧ a ≠ 34 ∧ a ≠ 35 ∧ a ≠ 36 → H2.2.2 a = h.2.2 a := fun a ha => by
      rw [hH2]; simp [m4, m2, tw_sg, ha.1, ha.2.1, ha.2.2.1, ha.2.2.2]
    have e21 : H2.1 = h.1 := by rw [hH2]; rfl
    obtain ⟨m1, m2', m3', _, A, B, C, m5⟩ := hM
    refine ⟨nw, nt, s0, ns, nr, hk, lw, fl, tr, tfx, tfm, sw, sh, sa, a', upd f35 ns v, r1, r2, r3, ft, fo, kd, wt, sz, ln, sf, g, hX.congr (by omega) (fun a ha => o2 a (by omega)), hS.congr (by omega) (o2 2 (by decide)) (fun a h1 _ => o2 a (by omega)), ⟨⟨a1, a2, a3, ?_⟩, ?_, ⟨hd, ?_⟩, ⟨f', ?_⟩, A, B, C, ?_⟩, r8, r6, r0, rs, rW, rT, fun j hj => ⟨by rw [ha j hj]; exact (rN j hj).1, by unfold upd; rw [if_neg (by omega)]; exact (rN j hj).2⟩, rF⟩
    · rw [hH2]; exact mZ.m4 ns f'
    · unfold MR at m2' ⊢; rw [o2 37 (by decide), o2 38 (by decide), o2 39 (by decide)]; exact m2'
    · unfold MH at mH ⊢; rw [o2 40 (by decide), o2 41 (by decide), o2 42 (by decide), o2 43 (by decide)]; exact mH
    · rw [hH2]; exact m4_36
    · rw [o2 31 (by decide), o2 32 (by decide), o2 33 (by decide)]; exact m5
  · have ex := x_help_no xX v what (Or.inl q)
    rw [if_neg q] at ex
    refine ⟨_, h, h, ex, ?_, I, by omega, by omega⟩
    by_cases q1 : ¬ v < -59 ∧ ¬ 59 < v
    · rw [show decide ((-59 : Int64) ≤ v.toInt64 ∧ v.toInt64 ≤ 59) = true from by rw [decide_eq_true_iff, i1, i2]; exact q1] at hi1
      rw [show decide ((0 : Int64) ≤ what.toInt64 ∧ what.toInt64 ≤ 1) = false from by rw [decide_eq_false_iff_not, i3, i4]; exact fun z => q ⟨q1, z⟩] at hi2
      simp [s150_0, s150_1, s150_2, s150_5, s150_8, s150_11, s150_14, s150_15, s150_16, s150_17, s150_18, s150_21, s150_24, s150_26, s150_27, s150_28, s150_31, s150_34, s150_36, s150_37, s150_39, s150_40, s150_41, s150_44, s150_46, s150_47, s150_48, s150_51, s150_52, s150_53, s150_56, s150_57, s150_60, s150_61, s150_64, s150_65, s150_66, s150_67, s150_68, s150_69, s150_73, s150_75, s150_78, s150_79, s150_82, s150_83, s150_86, s150_87, s150_88, s150_90, s150_91, s150_92, s150_95, s150_97, s150_99, s150_101, s150_104, s150_106, s150_109, s150_110, s150_111, s150_113, s150_115, s150_118, s150_120, s150_123, s150_125, s150_127, s150_130, s150_133, s150_134, s150_135, s150_138, s150_139, s150_140, s150_143, s150_144, s150_147, s150_148, s150_151, s150_153, hi1, hi2, tw_bi_0]
    · rw [show decide ((-59 : Int64) ≤ v.toInt64 ∧ v.toInt64 ≤ 59) = false from by rw [decide_eq_false_iff_not, i1, i2]; exact q1] at hi1
      simp [s150_0, s150_1, s150_2, s150_5, s150_8, s150_11, s150_14, s150_15, s150_16, s150_17, s150_18, s150_21, s150_24, s150_26, s150_27, s150_28, s150_31, s150_34, s150_36, s150_37, s150_39, s150_40, s150_41, s150_44, s150_46, s150_47, s150_48, s150_51, s150_52, s150_53, s150_56, s150_57, s150_60, s150_61, s150_64, s150_65, s150_66, s150_67, s150_68, s150_69, s150_73, s150_75, s150_78, s150_79, s150_82, s150_83, s150_86, s150_87, s150_88, s150_90, s150_91, s150_92, s150_95, s150_97, s150_99, s150_101, s150_104, s150_106, s150_109, s150_110, s150_111, s150_113, s150_115, s150_118, s150_120, s150_123, s150_125, s150_127, s150_130, s150_133, s150_134, s150_135, s150_138, s150_139, s150_140, s150_143, s150_144, s150_147, s150_148, s150_151, s150_153, hi1, tw_bi_0]
theorem c_starts (I : Inv h) : Two h 79 [.ref 1, tw_un, tw_un] 156 [.ref 27, tw_un, tw_un, tw_un] := by
  obtain ⟨nw, nt, s0, ns, nr, hk, lw, fl, tr, tfx, tfm, sw, sh, sa, f34, f35, r1, r2, r3, ft, fo, kd, wt, sz, ln, sf, g, hX, hS, hM, hR⟩ := id I
  obtain ⟨x44, xX, xS, xR, xK, ⟨oa, ob, xO⟩, ⟨lf, xL⟩, xW, xWK, xT, xTx⟩ := id hX
  obtain ⟨⟨a1, a2, a3, mZ⟩, mR, ⟨hd, mH⟩, ⟨mf, mL⟩, mA⟩ := id hM
  obtain ⟨r8, r6, r0, rs, rW, rT, rN, rF⟩ := id hR
  by_cases hw0 : nw = 0
  · have w0 : nI nw = 0 := by rw [hw0]; rfl
    have xX0 := xX
    rw [w0] at xX0
    refine ⟨_, h, h, (x_no_town xX0).1, ?_, I, by omega, by omega⟩
    simp [s156_0, s156_1, s156_4, s156_7, s156_9, s156_10, s156_11, s156_14, s156_15, s156_16, s156_17, s156_18, s156_20, s156_21, s156_24, s156_27, s156_28, s156_29, s156_32, s156_33, s156_34, s156_37, s156_40, s156_41, s156_42, s156_43, s156_46, s156_47, s156_48, s156_49, s156_52, s156_55, s156_56, s156_57, s156_60, s156_61, tw_gf, mZ.1, w0]
  have hw : 0 < nw := by omega
  have n0 : 0 < nt := by
    by_cases z : nt = 0
    · have := r0.mpr z; omega
    · omega
  have hs0 := rs hw
  have hT := tid_ok n0 r6 hs0
  have hf1 := fun j (hj : j < 8) => (rF hw j hj).1
  have hf2 := fun j (hj : j < 8) => (rF hw j hj).2
  have wne : ¬ nI nw = 0 := nI_ne0 hw (by omega)
  have n6 : ns ≤ 6 := xS.2.2.2.2.2.2
  have hst := st_eq (hk := hk) (sh := sh) (sa := sa) (f34 := f34) (f35 := f35) n0 r6 hs0 rT rN hf1 hf2
  have hstr := fun s (hs : s < 60) => str_eq (sh := sh) (sa := sa) (f34 := f34) (f35 := f35) n0 r6 hs0 rT rN hs
  obtain ⟨f', ex⟩ := x_starts xX xS (by omega) xK xR xL wne
  have e : seS (fun v => ftZ (fun hour => spF ft fo hk (strF (nI nt) tfx ns sh sa (nI v) hour 0)) r1 r2 r3 nr) 0 nt 0 = seS (fun v => ftZ (stM nw kd wt (-9) lw hk (nI nt) tfm ns f34 f35 (nI v)) r1 r2 r3 nr) 0 nt 0 := seS_congr nt 0 0 (fun v _ hv => ftZ_congr (st_eq n0 r6 (by omega) rT rN hf1 hf2) r1 r2 r3 nr)
  rw [e] at ex
  obtain ⟨H1, hH1⟩ : ∃ H1, H1 = tw_set h 26 (iC 8 f') := ⟨_, rfl⟩
  rw [← hH1] at ex
  have gZ : MZ H1 fl (nI nt) nw hk lw (nI s0) (-9) a1 a2 a3 ns (nI nr) tr tfm kd wt f34 f35 := by rw [hH1]; exact mZ.set (by omega)
  have gR : MR H1 nr r1 r2 r3 := by rw [hH1]; exact mR.set (by omega)
  have gL : H1.2.2 36 = some (iC 8 mf) := by rw [hH1, tw_sg, if_neg (by decide)]; exact mL
  obtain ⟨f2, em⟩ := m_starts gZ r8 (by omega) rW.hb (fun v hv => tid_ok n0 r6 hv) (by omega) gR gL wne
  exact ⟨_, H1, _, ex, em, Inv.q hX hS hM hR hH1 (f' := f2) rfl, by rw [tw_sg1, hH1, tw_sg1]; omega, by rw [tw_sg2, hH1, tw_sg2]; omega⟩
theorem c_freed (I : Inv h) : Two h 85 [.ref 1, tw_un, tw_un] 160 [.ref 27, tw_un, tw_un, tw_un] := by
  obtain ⟨nw, nt, s0, ns, nr, hk, lw, fl, tr, tfx, tfm, sw, sh, sa, f34, f35, r1, r2, r3, ft, fo, kd, wt, sz, ln, sf, g, hX, hS, hM, hR⟩ := id I
  obtain ⟨x44, xX, xS, xR, xK, ⟨oa, ob, xO⟩, ⟨lf, xL⟩, xW, xWK, xT, xTx⟩ := id hX
  obtain ⟨⟨a1, a2, a3, mZ⟩, mR, ⟨hd, mH⟩, ⟨mf, mL⟩, mA⟩ := id hM
  obtain ⟨r8, r6, r0, rs, rW, rT, rN, rF⟩ := id hR
  by_cases hw0 : nw = 0
  · have w0 : nI nw = 0 := by rw [hw0]; rfl
    have xX0 := xX
    rw [w0] at xX0
    refine ⟨_, h, h, (x_no_town xX0).2.2.2, ?_, I, by omega, by omega⟩
    simp [s160_0, s160_1, s160_4, s160_7, s160_9, s160_10, s160_11, s160_14, s160_15, s160_16, s160_17, s160_18, s160_20, s160_21, s160_24, s160_27, s160_28, s160_29, s160_30, s160_31, s160_32, s160_33, s160_34, s160_35, s160_38, s160_39, s160_40, s160_43, s160_46, s160_47, s160_48, s160_49, s160_52, s160_53, s160_54, s160_55, s160_58, s160_61, s160_62, s160_63, s160_66, s160_67, tw_gf, mZ.1, w0]
  have hw : 0 < nw := by omega
  have n0 : 0 < nt := by
    by_cases z : nt = 0
    · have := r0.mpr z; omega
    · omega
  have hs0 := rs hw
  have hT := tid_ok n0 r6 hs0
  have hf1 := fun j (hj : j < 8) => (rF hw j hj).1
  have hf2 := fun j (hj : j < 8) => (rF hw j hj).2
  have wne : ¬ nI nw = 0 := nI_ne0 hw (by omega)
  have n6 : ns ≤ 6 := xS.2.2.2.2.2.2
  have hst := st_eq (hk := hk) (sh := sh) (sa := sa) (f34 := f34) (f35 := f35) n0 r6 hs0 rT rN hf1 hf2
  have hstr := fun s (hs : s < 60) => str_eq (sh := sh) (sa := sa) (f34 := f34) (f35 := f35) n0 r6 hs0 rT rN hs
  obtain ⟨f', ex⟩ := x_freed xX (by omega) xS xK xR xL wne
  have e : seS (fun k => ftZ (fun hour => spF ft fo (hk &&& ~~~bitI (nI k)) (strF (nI nt) tfx ns sh sa (nI s0) hour 0)) r1 r2 r3 nr) 0 nw 0 = seS (fun v => ftZ (stM nw kd wt (-9) lw (hk &&& ~~~bitI (nI v)) (nI nt) tfm ns f34 f35 (nI s0)) r1 r2 r3 nr) 0 nw 0 := seS_congr nw 0 0 (fun v _ hv => ftZ_congr (st_eq n0 r6 hs0 rT rN hf1 hf2) r1 r2 r3 nr)
  rw [e] at ex
  obtain ⟨H1, hH1⟩ : ∃ H1, H1 = tw_set h 26 (iC 8 f') := ⟨_, rfl⟩
  rw [← hH1] at ex
  have gZ : MZ H1 fl (nI nt) nw hk lw (nI s0) (-9) a1 a2 a3 ns (nI nr) tr tfm kd wt f34 f35 := by rw [hH1]; exact mZ.set (by omega)
  have gR : MR H1 nr r1 r2 r3 := by rw [hH1]; exact mR.set (by omega)
  have gL : H1.2.2 36 = some (iC 8 mf) := by rw [hH1, tw_sg, if_neg (by decide)]; exact mL
  obtain ⟨f2, em⟩ := m_freed gZ r8 (by omega) rW.hb hT gR gL wne
  exact ⟨_, H1, _, ex, em, Inv.q hX hS hM hR hH1 (f' := f2) rfl, by rw [tw_sg1, hH1, tw_sg1]; omega, by rw [tw_sg2, hH1, tw_sg2]; omega⟩
theorem c_laws (I : Inv h) : Two h 83 [.ref 1, tw_un, tw_un] 158 [.ref 27, tw_un, tw_un, tw_un] := by
  obtain ⟨nw, nt, s0, ns, nr, hk, lw, fl, tr, tfx, tfm, sw, sh, sa, f34, f35, r1, r2, r3, ft, fo, kd, wt, sz, ln, sf, g, hX, hS, hM, hR⟩ := id I
  obtain ⟨x44, xX, xS, xR, xK, ⟨oa, ob, xO⟩, ⟨lf, xL⟩, xW, xWK, xT, xTx⟩ := id hX
  obtain ⟨⟨a1, a2, a3, mZ⟩, mR, ⟨hd, mH⟩, ⟨mf, mL⟩, mA⟩ := id hM
  obtain ⟨r8, r6, r0, rs, rW, rT, rN, rF⟩ := id hR
  by_cases hw0 : nw = 0
  · have w0 : nI nw = 0 := by rw [hw0]; rfl
    have xX0 := xX
    rw [w0] at xX0
    refine ⟨_, h, h, (x_no_town xX0).2.1, ?_, I, by omega, by omega⟩
    simp [s158_0, s158_1, s158_4, s158_7, s158_9, s158_10, s158_11, s158_14, s158_15, s158_16, s158_17, s158_18, s158_20, s158_21, s158_24, s158_25, s158_26, s158_29, s158_30, s158_31, s158_34, s158_37, s158_38, s158_39, s158_40, s158_43, s158_44, s158_45, s158_46, s158_49, s158_52, s158_53, s158_54, s158_57, s158_58, tw_gf, mZ.1, w0]
  have hw : 0 < nw := by omega
  have n0 : 0 < nt := by
    by_cases z : nt = 0
    · have := r0.mpr z; omega
    · omega
  have hs0 := rs hw
  have hT := tid_ok n0 r6 hs0
  have hf1 := fun j (hj : j < 8) => (rF hw j hj).1
  have hf2 := fun j (hj : j < 8) => (rF hw j hj).2
  have wne : ¬ nI nw = 0 := nI_ne0 hw (by omega)
  have n6 : ns ≤ 6 := xS.2.2.2.2.2.2
  have hst := st_eq (hk := hk) (sh := sh) (sa := sa) (f34 := f34) (f35 := f35) n0 r6 hs0 rT rN hf1 hf2
  have hstr := fun s (hs : s < 60) => str_eq (sh := sh) (sa := sa) (f34 := f34) (f35 := f35) n0 r6 hs0 rT rN hs
  obtain ⟨a', b', f', ex⟩ := x_laws xX xS xO.1 xO.2.1 xO.2.2 xR xL.1 xL.2 xW (xWK.at r8) wne
  have e : seS (fun v => ftZ (fun hour => spF (aT (TT nw kd wt) (-1)) (odZ (aT (TT nw kd wt) (-1)) (nI v)) hk (strF (nI nt) tfx ns sh sa (nI s0) hour 0)) r1 r2 r3 nr) 0 3 0 = seS (fun v => ftZ (stM nw kd wt (-9) (nI v) hk (nI nt) tfm ns f34 f35 (nI s0)) r1 r2 r3 nr) 0 3 0 := seS_congr 3 0 0 (fun v _ hv => ftZ_congr (st_eq n0 r6 hs0 rT rN (fun j hj => aT_out hj) (fun j hj => odZ_out hj)) r1 r2 r3 nr)
  rw [e] at ex
  obtain ⟨H1, hH1⟩ : ∃ H1, H1 = m3 h a' b' f' := ⟨_, rfl⟩
  rw [← hH1] at ex
  have o1 : ∀ a, a ≠ 23 ∧ a ≠ 24 ∧ a ≠ 26 → H1.2.2 a = h.2.2 a := fun a ha => by rw [hH1, m3_o ha]
  obtain ⟨⟨b1, b2, b3, gZ⟩, gR, _, ⟨mf', gL⟩, _⟩ := hM.congr (h' := H1) (fun a h1 h2 => o1 a (by omega))
  obtain ⟨f2, em⟩ := m_laws gZ r8 (by omega) rW.hb hT gR gL wne
  exact ⟨_, H1, _, ex, em, Inv.q3 hX hS hM hR hH1 (f' := f2) rfl, by rw [tw_sg1, hH1]; exact Nat.le_add_right _ _, by rw [tw_sg2, hH1]; exact Nat.le_add_right _ _⟩
theorem c_hung (I : Inv h) : Two h 84 [.ref 1, tw_un, tw_un] 159 [.ref 27, tw_un, tw_un] := by
  obtain ⟨nw, nt, s0, ns, nr, hk, lw, fl, tr, tfx, tfm, sw, sh, sa, f34, f35, r1, r2, r3, ft, fo, kd, wt, sz, ln, sf, g, hX, hS, hM, hR⟩ := id I
  obtain ⟨x44, xX, xS, xR, xK, ⟨oa, ob, xO⟩, ⟨lf, xL⟩, xW, xWK, xT, xTx⟩ := id hX
  obtain ⟨⟨a1, a2, a3, mZ⟩, mR, ⟨hd, mH⟩, ⟨mf, mL⟩, mA⟩ := id hM
  obtain ⟨r8, r6, r0, rs, rW, rT, rN, rF⟩ := id hR
  by_cases hw0 : nw = 0
  · have w0 : nI nw = 0 := by rw [hw0]; rfl
    have xX0 := xX
    rw [w0] at xX0
    refine ⟨_, h, h, (x_no_town xX0).2.2.1, ?_, I, by omega, by omega⟩
    simp [s159_0, s159_1, s159_4, s159_7, s159_9, s159_10, s159_11, s159_12, s159_13, s159_15, s159_16, s159_19, s159_22, s159_23, s159_24, s159_27, s159_28, s159_29, s159_32, s159_35, s159_36, s159_37, s159_38, s159_41, s159_42, s159_43, s159_44, s159_47, s159_50, s159_51, s159_53, s159_56, s159_57, tw_gf, mZ.1, w0]
  have hw : 0 < nw := by omega
  have n0 : 0 < nt := by
    by_cases z : nt = 0
    · have := r0.mpr z; omega
    · omega
  have hs0 := rs hw
  have hT := tid_ok n0 r6 hs0
  have hf1 := fun j (hj : j < 8) => (rF hw j hj).1
  have hf2 := fun j (hj : j < 8) => (rF hw j hj).2
  have wne : ¬ nI nw = 0 := nI_ne0 hw (by omega)
  have n6 : ns ≤ 6 := xS.2.2.2.2.2.2
  have hst := st_eq (hk := hk) (sh := sh) (sa := sa) (f34 := f34) (f35 := f35) n0 r6 hs0 rT rN hf1 hf2
  have hstr := fun s (hs : s < 60) => str_eq (sh := sh) (sa := sa) (f34 := f34) (f35 := f35) n0 r6 hs0 rT rN hs
  obtain ⟨a', b', f', ex⟩ := x_hung r8 xX xS xO.1 xO.2.1 xO.2.2 xR xL.1 xL.2 xW (xWK.at r8) wne
  have e : seS (fun v => ftZ (fun hour => spF (aT (TT nw kd wt) (nI v)) (odZ (aT (TT nw kd wt) (nI v)) lw) hk (strF (nI nt) tfx ns sh sa (nI s0) hour 0)) r1 r2 r3 nr) 0 nw 0 = seS (fun v => ftZ (stM nw kd wt (nI v) lw hk (nI nt) tfm ns f34 f35 (nI s0)) r1 r2 r3 nr) 0 nw 0 := seS_congr nw 0 0 (fun v _ hv => ftZ_congr (st_eq n0 r6 hs0 rT rN (fun j hj => rfl) (fun j hj => rfl)) r1 r2 r3 nr)
  rw [e] at ex
  obtain ⟨H1, hH1⟩ : ∃ H1, H1 = m3 h a' b' f' := ⟨_, rfl⟩
  rw [← hH1] at ex
  have o1 : ∀ a, a ≠ 23 ∧ a ≠ 24 ∧ a ≠ 26 → H1.2.2 a = h.2.2 a := fun a ha => by rw [hH1, m3_o ha]
  obtain ⟨⟨b1, b2, b3, gZ⟩, gR, _, ⟨mf', gL⟩, _⟩ := hM.congr (h' := H1) (fun a h1 h2 => o1 a (by omega))
  obtain ⟨f2, em⟩ := m_hung gZ r8 (by omega) rW.hb hT gR gL wne
  exact ⟨_, H1, _, ex, em, Inv.q3 hX hS hM hR hH1 (f' := f2) rfl, by rw [tw_sg1, hH1]; exact Nat.le_add_right _ _, by rw [tw_sg2, hH1]; exact Nat.le_add_right _ _⟩
theorem c_odds (I : Inv h) (k hour which : Int32) : Two h 86 [.ref 1, .int k, .int hour, .int which, tw_un, tw_un, tw_un, tw_un] 161 [.ref 27, .int k, .int hour, .int which, tw_un, tw_un, tw_un, tw_un] := by
  obtain ⟨nw, nt, s0, ns, nr, hk, lw, fl, tr, tfx, tfm, sw, sh, sa, f34, f35, r1, r2, r3, ft, fo, kd, wt, sz, ln, sf, g, hX, hS, hM, hR⟩ := id I
  obtain ⟨x44, xX, xS, xR, xK, ⟨oa, ob, xO⟩, ⟨lf, xL⟩, xW, xWK, xT, xTx⟩ := id hX
  obtain ⟨⟨a1, a2, a3, mZ⟩, mR, ⟨hd, mH⟩, ⟨mf, mL⟩, mA⟩ := id hM
  obtain ⟨r8, r6, r0, rs, rW, rT, rN, rF⟩ := id hR
  have em := m_noWork mZ.1 k
  have i3 : ((0 : Int64) ≤ which.toInt64) = ¬ which < 0 := l_ge which 0 0 rfl
  have i4 : (which.toInt64 ≤ (1 : Int64)) = ¬ 1 < which := l_le which 1 1 rfl
  have hi := m_in which.toInt64 0 1 h
  have eh := m_isHour hour h
  by_cases qk : ¬ k < 0 ∧ k < nI nw
  · obtain ⟨j, hj, rfl⟩ := xWK.isref r8 qk
    obtain ⟨w, wa, _⟩ := xWK.ref r8 hj
    rw [decide_eq_true qk] at em
    have hw : 0 < nw := by omega
    have n0 : 0 < nt := by
      by_cases z : nt = 0
      · have := r0.mpr z; omega
      · omega
    have hs0 := rs hw
    have hT := tid_ok n0 r6 hs0
    have hf1 := fun j (hj : j < 8) => (rF hw j hj).1
    have hf2 := fun j (hj : j < 8) => (rF hw j hj).2
    have wne : ¬ nI nw = 0 := nI_ne0 hw (by omega)
    have n6 : ns ≤ 6 := xS.2.2.2.2.2.2
    have hst := st_eq (hk := hk) (sh := sh) (sa := sa) (f34 := f34) (f35 := f35) n0 r6 hs0 rT rN hf1 hf2
    have hstr := fun s (hs : s < 60) => str_eq (sh := sh) (sa := sa) (f34 := f34) (f35 := f35) n0 r6 hs0 rT rN hs
    by_cases q : (¬ hour < 0 ∧ hour < 60) ∧ (¬ which < 0 ∧ ¬ 1 < which)
    · obtain ⟨s, hs, rfl⟩ := hour_of q.1
      have ec : odC (fun x => hasB (goF ft fo (nI x) (strF (nI nt) tfx ns sh sa (nI s0) (nI s) 0)) (nI j)) 0 (2 ^ nw) 0 = odC (fun x => hasB (goM nw kd wt (-9) lw (nI x) (strM (nI nt) tfm ns f34 f35 (nI s0) (nI s))) (nI j)) 0 (2 ^ nw) 0 := odC_congr _ _ _ (fun x _ _ => by
        unfold goM
        simp only [hstr s hs, goF_congr hf1 hf2])
      have hle := odC_le (fun x => hasB (goM nw kd wt (-9) lw (nI x) (strM (nI nt) tfm ns f34 f35 (nI s0) (nI s))) (nI j)) (2 ^ nw) 0 0
      obtain ⟨u, l, x, o1, o2, o3, o4, o5⟩ := od_ok r8 (show odC (fun x => hasB (goM nw kd wt (-9) lw (nI x) (strM (nI nt) tfm ns f34 f35 (nI s0) (nI s))) (nI j)) 0 (2 ^ nw) 0 ≤ 2 ^ nw by omega)
      have ex := x_odds r8 xX xS xK xW wa q.1 q.2 (u := u) (l := l) (by rw [ec]; exact o1)
      have emm := m_odds mZ r8 (by omega) hT hs hj q.2 o2 o3
      refine ⟨_, h, h, ex, ?_, I, by omega, by omega⟩
      rw [emm]
      by_cases z : which = 0
      · rw [if_pos z, if_pos z, o4]
      · rw [if_neg z, if_neg z, o5]
    · have ex := x_odds_no xX xW (k := nI j) (hour := hour) (which := which) (Or.inr ⟨⟨w, wa⟩, q⟩)
      refine ⟨_, h, h, ex, ?_, I, by omega, by omega⟩
      by_cases q1 : ¬ hour < 0 ∧ hour < 60
      · rw [decide_eq_true q1] at eh
        rw [show decide ((0 : Int64) ≤ which.toInt64 ∧ which.toInt64 ≤ 1) = false from by rw [decide_eq_false_iff_not, i3, i4]; exact fun z => q ⟨q1, z⟩] at hi
        simp [s161_0, s161_1, s161_2, s161_5, s161_8, s161_9, s161_12, s161_15, s161_16, s161_17, s161_18, s161_19, s161_22, s161_25, s161_28, s161_29, s161_30, s161_33, s161_35, s161_36, s161_38, s161_39, s161_43, s161_44, s161_47, s161_50, s161_51, s161_53, s161_56, s161_58, s161_59, s161_60, s161_63, s161_64, s161_67, s161_70, s161_71, s161_74, s161_75, s161_76, s161_78, s161_81, s161_85, s161_87, s161_90, s161_92, s161_93, s161_96, s161_97, s161_98, s161_99, s161_100, s161_103, s162_0, s162_3, mco mZ.1, em, eh, hi, tw_bi_0]
      · rw [decide_eq_false q1] at eh
        simp [s161_0, s161_1, s161_2, s161_5, s161_8, s161_9, s161_12, s161_15, s161_16, s161_17, s161_18, s161_19, s161_22, s161_25, s161_28, s161_29, s161_30, s161_33, s161_35, s161_36, s161_38, s161_39, s161_43, s161_44, s161_47, s161_50, s161_51, s161_53, s161_56, s161_58, s161_59, s161_60, s161_63, s161_64, s161_67, s161_70, s161_71, s161_74, s161_75, s161_76, s161_78, s161_81, s161_85, s161_87, s161_90, s161_92, s161_93, s161_96, s161_97, s161_98, s161_99, s161_100, s161_103, s162_0, s162_3, mco mZ.1, em, eh, tw_bi_0]
  · have ex := x_odds_no xX xW (k := k) (hour := hour) (which := which) (Or.inl ((xWK.null r8 k).mpr qk))
    rw [decide_eq_false qk] at em
    refine ⟨_, h, h, ex, ?_, I, by omega, by omega⟩
    simp [s161_0, s161_1, s161_2, s161_5, s161_8, s161_9, s161_12, s161_15, s161_16, s161_17, s161_18, s161_19, s161_22, s161_25, s161_28, s161_29, s161_30, s161_33, s161_35, s161_36, s161_38, s161_39, s161_43, s161_44, s161_47, s161_50, s161_51, s161_53, s161_56, s161_58, s161_59, s161_60, s161_63, s161_64, s161_67, s161_70, s161_71, s161_74, s161_75, s161_76, s161_78, s161_81, s161_85, s161_87, s161_90, s161_92, s161_93, s161_96, s161_97, s161_98, s161_99, s161_100, s161_103, s162_0, s162_3, mco mZ.1, em, tw_bi_0]
end I3
