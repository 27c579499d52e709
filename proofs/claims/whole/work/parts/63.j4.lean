/-! copies -/
section L2
variable {h : tw_H}
theorem c_copy (I : Inv h) (k i o j n : Int32) : Two h 94 [.ref 1, .int k, .int i, .int o, .int j, .int n, tw_un, tw_un] 170 [.ref 27, .int k, .int i, .int o, .int j, .int n, tw_un] := by
  obtain ⟨nw, nt, s0, ns, nr, hk, lw, fl, tr, tfx, tfm, sw, sh, sa, f34, f35, r1, r2, r3, ft, fo, kd, wt, sz, ln, sf, g, hX, hS, hM, hR⟩ := id I
  obtain ⟨x44, xX, xS, xR, xK, ⟨oa, ob, xO⟩, ⟨lf, xL⟩, xW, xWK, xT, xTx⟩ := id hX
  obtain ⟨⟨a1, a2, a3, mZ⟩, mR, ⟨hd, mH⟩, ⟨mf, mL⟩, mA⟩ := id hM
  obtain ⟨r8, r6, r0, rs, rW, rT, rN, rF⟩ := id hR
  obtain ⟨gs, ra', rb', nn, hSo⟩ := hS.opn
  obtain ⟨H1, hH1⟩ : ∃ H1, H1 = tw_set h 1 (xC (nI nw) hk lw (nI s0) 0) := ⟨_, rfl⟩
  have o1 : ∀ a, a ≠ 1 → H1.2.2 a = h.2.2 a := fun a ha => by rw [hH1, tw_sg, if_neg ha]
  have g1 : H1.2.2 1 = some (xC (nI nw) hk lw (nI s0) 0) := by rw [hH1, tw_sg, if_pos rfl]
  have g2 : H1.2.2 2 = some (rC 1 4 gs) := by rw [o1 2 (by decide)]; exact hSo.1
  have es := x_isSheet g1 g2 k
  have es2 := x_isSheet g1 g2 o
  have er := x_rowOf g1 g2 k
  have er2 := x_rowOf g1 g2 o
  have en := fun h => m_noSheet k h
  have en2 := fun h => m_noSheet o h
  have gM : ∀ fl', (tw_set h 1 (xC (nI nw) hk lw (nI s0) fl')).2.2 27 = some (mC fl (nI nt) (nI nw) hk lw (nI s0) (-9) a1 a2 a3 (nI ns) (nI nr) tr) := fun fl' => by rw [tw_sg, if_neg (by decide)]; exact mZ.1
  have gH : ∀ fl', MH (tw_set h 1 (xC (nI nw) hk lw (nI s0) fl')) sz ln sf hd := fun fl' => by
    unfold MH at mH ⊢
    simp only [tw_sg]
    simpa using mH
  by_cases q : (¬ k < 0 ∧ k < 4) ∧ (¬ o < 0 ∧ o < 4)
  · rw [decide_eq_true q.1] at es
    rw [decide_eq_true q.2] at es2
    simp only [decide_eq_true q.1] at en
    simp only [decide_eq_true q.2] at en2
    obtain ⟨kj, hkj, rfl⟩ := below_of (N := 4) (by decide) q.1
    obtain ⟨oj, hoj, rfl⟩ := below_of (N := 4) (by decide) q.2
    have ev := tw_vi_n (show kj < 4 by omega) (by decide)
    have ec := nI_clamp (show kj < 2 ^ 31 by omega)
    have ev2 := tw_vi_n (show oj < 4 by omega) (by decide)
    have ec2 := nI_clamp (show oj < 2 ^ 31 by omega)
    unfold rwV at er er2
    rw [if_pos ev, ec] at er
    rw [if_pos ev2, ec2] at er2
    have ef1 := x_faulted g1 1
    rw [hH1, tw_ss, ← hH1] at ef1
    rcases hSo.2 oj hoj with ⟨w1, w2⟩ | ⟨w1, w2, w3, w4, w5, w6, w7, w8, ⟨f2, w9, w10⟩, w11⟩
    · rw [w1] at er2
      simp only [tw_rf] at er2
      refine two_fl hX hS hM hR 1 a1 a2 a3 (.int (-11)) ?_ ?_
      · cases hgk : gs kj with
        | none =>
          rw [hgk] at er
          simp only [tw_rf] at er
          simp [s94_0, s94_1, s94_2, s94_5, s94_6, s94_7, s94_10, s94_13, s94_14, s94_15, s94_18, s94_21, s94_22, s94_23, s94_24, s94_25, s94_28, s94_28n, s94_30, s94_31, s94_32, s94_35, s94_35m, s94_35n, s94_35nm, s94_37, s94_37n, s94_39, s94_39n, s94_42, s94_42n, s94_44, s94_44n, s94_47, s94_48, s94_49, s94_52, s94_53, s94_53n, s94_55, s94_58, s94_58n, s94_60, s94_63, s94_66, s94_67, s94_68, s94_71, s94_72, s94_72n, s94_74, s94_75, s94_77, s94_80, s94_83, s94_83n, s94_85, s94_87, s94_89, s94_92, s94_95, s94_96, s94_97, s94_100, s94_101, s94_101n, s94_103, s94_106, s94_107, s94_107n, s94_109, s94_112, s94_114, s94_116, s94_119, s94_121, tw_sf, xX, tw_fit, ← hH1, xco g1, es, es2, er, er2, tw_bi_0, ef1]
        | some a =>
          rw [hgk] at er
          simp only [tw_rf] at er
          simp [s94_0, s94_1, s94_2, s94_5, s94_6, s94_7, s94_10, s94_13, s94_14, s94_15, s94_18, s94_21, s94_22, s94_23, s94_24, s94_25, s94_28, s94_28n, s94_30, s94_31, s94_32, s94_35, s94_35m, s94_35n, s94_35nm, s94_37, s94_37n, s94_39, s94_39n, s94_42, s94_42n, s94_44, s94_44n, s94_47, s94_48, s94_49, s94_52, s94_53, s94_53n, s94_55, s94_58, s94_58n, s94_60, s94_63, s94_66, s94_67, s94_68, s94_71, s94_72, s94_72n, s94_74, s94_75, s94_77, s94_80, s94_83, s94_83n, s94_85, s94_87, s94_89, s94_92, s94_95, s94_96, s94_97, s94_100, s94_101, s94_101n, s94_103, s94_106, s94_107, s94_107n, s94_109, s94_112, s94_114, s94_116, s94_119, s94_121, tw_sf, xX, tw_fit, ← hH1, xco g1, es, es2, er, er2, tw_bi_0, ef1]
      · by_cases z : sz kj < 0 <;> simp [s170_0, s170_1, s170_4, s170_7, s170_8, s170_11, s170_14, s170_15, s170_16, s170_19, s170_20, s170_21, s170_24, s170_25, s170_26, s170_29, s170_30, s170_33, s170_34, s170_35, s170_38, s170_39, s170_40, s170_43, s170_44, s170_45, s170_48, s170_49, s170_50, s170_51, s170_54, s170_55, s170_56, s170_59, s170_60, s170_61, s170_64, s170_65, s170_66, s170_68, s170_69, s170_70, s170_73, s170_74, s170_75, s170_78, s170_81, s170_83, s170_85, s170_86, s170_87, s170_90, s170_91, s170_92, s170_95, s170_98, s170_99, s170_100, s170_103, s170_104, s170_105, s170_109, s170_111, s170_114, s170_115, s170_118, s170_120, s170_121, s170_124, s170_126, s170_127, s170_128, s170_129, s170_130, s170_132, s170_133, s170_134, s170_135, s170_138, s170_142, s170_146, s170_148, s170_151, s170_152, s170_155, s170_157, s170_158, s170_159, s170_161, s170_162, s170_164, s170_165, s170_166, s170_169, s170_171, s170_172, s170_173, s170_176, s170_179, s170_180, s170_182, s170_185, en, en2, tw_bi_0, mco (gM 1), tw_gf, tw_ia, gM 1, (gH 1).1, ev, ec, ev2, ec2, z, w2, m_failed (gM 1)]
    · rw [w1] at er2
      simp only [tw_rf] at er2
      have f0 : ¬ nI (nn oj) < 0 := nI_pos (by omega)
      rcases hSo.2 kj hkj with ⟨y1, y2⟩ | ⟨y1, y2, y3, y4, y5, y6, y7, y8, ⟨f, y9, y10⟩, y11⟩
      · rw [y1] at er
        simp only [tw_rf] at er
        refine two_fl hX hS hM hR 1 a1 a2 a3 (.int (-11)) ?_ ?_
        · simp [s94_0, s94_1, s94_2, s94_5, s94_6, s94_7, s94_10, s94_13, s94_14, s94_15, s94_18, s94_21, s94_22, s94_23, s94_24, s94_25, s94_28, s94_28n, s94_30, s94_31, s94_32, s94_35, s94_35m, s94_35n, s94_35nm, s94_37, s94_37n, s94_39, s94_39n, s94_42, s94_42n, s94_44, s94_44n, s94_47, s94_48, s94_49, s94_52, s94_53, s94_53n, s94_55, s94_58, s94_58n, s94_60, s94_63, s94_66, s94_67, s94_68, s94_71, s94_72, s94_72n, s94_74, s94_75, s94_77, s94_80, s94_83, s94_83n, s94_85, s94_87, s94_89, s94_92, s94_95, s94_96, s94_97, s94_100, s94_101, s94_101n, s94_103, s94_106, s94_107, s94_107n, s94_109, s94_112, s94_114, s94_116, s94_119, s94_121, tw_sf, xX, tw_fit, ← hH1, xco g1, es, es2, er, er2, tw_bi_0, ef1]
        · simp [s170_0, s170_1, s170_4, s170_7, s170_8, s170_11, s170_14, s170_15, s170_16, s170_19, s170_20, s170_21, s170_24, s170_25, s170_26, s170_29, s170_30, s170_33, s170_34, s170_35, s170_38, s170_39, s170_40, s170_43, s170_44, s170_45, s170_48, s170_49, s170_50, s170_51, s170_54, s170_55, s170_56, s170_59, s170_60, s170_61, s170_64, s170_65, s170_66, s170_68, s170_69, s170_70, s170_73, s170_74, s170_75, s170_78, s170_81, s170_83, s170_85, s170_86, s170_87, s170_90, s170_91, s170_92, s170_95, s170_98, s170_99, s170_100, s170_103, s170_104, s170_105, s170_109, s170_111, s170_114, s170_115, s170_118, s170_120, s170_121, s170_124, s170_126, s170_127, s170_128, s170_129, s170_130, s170_132, s170_133, s170_134, s170_135, s170_138, s170_142, s170_146, s170_148, s170_151, s170_152, s170_155, s170_157, s170_158, s170_159, s170_161, s170_162, s170_164, s170_165, s170_166, s170_169, s170_171, s170_172, s170_173, s170_176, s170_179, s170_180, s170_182, s170_185, en, en2, tw_bi_0, mco (gM 1), tw_gf, tw_ia, gM 1, (gH 1).1, ev, ec, y2, m_failed (gM 1)]
      · rw [y1] at er
        simp only [tw_rf] at er
        have e0 : ¬ nI (nn kj) < 0 := nI_pos (by omega)
        have ga : H1.2.2 (ra' kj) = some (oC 3 [.int (ln kj), .ref (rb' kj)]) := by rw [o1 _ (by omega)]; exact y6
        have gb : H1.2.2 (rb' kj) = some (iC (nn kj) f) := by rw [o1 _ (by omega)]; exact y9
        have ga2 : H1.2.2 (ra' oj) = some (oC 3 [.int (ln oj), .ref (rb' oj)]) := by rw [o1 _ (by omega)]; exact w6
        have gb2 : H1.2.2 (rb' oj) = some (iC (nn oj) f2) := by rw [o1 _ (by omega)]; exact w9
        have c0 : ra' kj ≠ 0 := by omega
        have c1 : ra' oj ≠ 0 := by omega
        have hco : tw_co H1 (ra' kj) = some 3 := by simp [tw_co, ga, c0]
        have hco2 : tw_co H1 (ra' oj) = some 3 := by simp [tw_co, ga2, c1]
        have ech := x_reaches ga c0 gb i n
        have ech2 := x_reaches ga2 c1 gb2 j n
        by_cases p1 : ln kj = ln oj
        · have eb1 := fun h => m_isBeyond i (nI (nn kj)) n.toInt64 h
          have eb2 := fun h => m_isBeyond j (nI (nn oj)) n.toInt64 h
          simp only [bey_rch (show nn kj < 2 ^ 31 by omega)] at eb1
          simp only [bey_rch (show nn oj < 2 ^ 31 by omega)] at eb2
          by_cases q1 : rchB (nn kj) i n = true ∧ rchB (nn oj) j n = true
          · rw [q1.1] at ech
            rw [q1.2] at ech2
            simp only [q1.1] at eb1
            simp only [q1.2] at eb2
            obtain ⟨i', m, rfl, rfl, l1⟩ := rch_of (by omega) q1.1
            obtain ⟨j', m', rfl, emm, l2⟩ := rch_of (by omega) q1.2
            have : m = m' := (nI_eq (by omega) (by omega)).mp emm
            subst this
            have b0 : rb' kj ≠ 0 := by omega
            have b1 : rb' oj ≠ 0 := by omega
            have hac : tw_ac H1 (rb' kj) (nI i') (rb' oj) (nI j') (nI m) = some (tw_set H1 (rb' oj) (iC (nn oj) (va_cpy f f2 i' j' m))) := by
              simp [tw_ac, gb, gb2, b0, b1, nI_pos' (show m < 2 ^ 31 by omega), nI_pos' (show i' < 2 ^ 31 by omega), nI_pos' (show j' < 2 ^ 31 by omega), nI_clamp (show m < 2 ^ 31 by omega), nI_clamp (show i' < 2 ^ 31 by omega), nI_clamp (show j' < 2 ^ 31 by omega), l1, l2]
            obtain ⟨H2, hH2⟩ : ∃ H2, H2 = tw_set H1 (rb' oj) (iC (nn oj) (va_cpy f f2 i' j' m)) := ⟨_, rfl⟩
            rw [← hH2] at hac
            have o2 : ∀ a, a ≠ 1 → a ≠ rb' oj → H2.2.2 a = h.2.2 a := fun a ha hb => by rw [hH2, tw_sg, if_neg hb, o1 a ha]
            have g27 := mZ.1
            rw [← o2 27 (by decide) (by omega)] at g27
            have gH2 : MH H2 sz ln sf hd := by
              unfold MH at mH ⊢
              rw [o2 40 (by decide) (by omega), o2 41 (by decide) (by omega), o2 42 (by decide) (by omega), o2 43 (by decide) (by omega)]
              exact mH
            obtain ⟨hd', hhd'⟩ : ∃ hd', hd' = fset hd (fun x => sf (60 * kj + i' + x)) m := ⟨_, rfl⟩
            obtain ⟨K1, K2, K3⟩ := Inv.row hX hSo hM hR mH 0 a1 a2 a3 hoj (by rw [w1]; exact fun z => by cases z) (F := va_cpy f f2 i' j' m) (sf' := va_cpy hd' sf 0 (60 * oj + j') m) (hd' := hd') (fun x hx => by
              unfold va_cpy
              by_cases z : j' ≤ x ∧ x < j' + m
              · rw [if_pos z, if_pos (by omega), y10 _ (by omega), hhd', fset_lt (by omega)]
                congr 1
                omega
              · rw [if_neg z, if_neg (by omega), w10 x hx]) (fun k' x k1 k2 k3 => by
              unfold va_cpy
              rw [if_neg (by omega)]) (h1 := H2) (by rw [hH2, hH1]) rfl
            have hl := m_hand_loop (h := H2) (sf := sf) (hd := hd) (k := kj) (n := m) (i := i') (o := oj) (j := j') g27 gH2.2.2.1 (by omega) (by omega) m 0 (by omega)
            rw [fset_0, tw_si H2 gH2.2.2.2, nI_0, ← hhd'] at hl
            obtain ⟨H3, hH3⟩ : ∃ H3, H3 = tw_set H2 43 (iC 60 hd') := ⟨_, rfl⟩
            have g273 : H3.2.2 27 = some (mC fl (nI nt) (nI nw) hk lw (nI s0) (-9) a1 a2 a3 (nI ns) (nI nr) tr) := by rw [hH3, tw_sg, if_neg (by decide)]; exact g27
            have g433 : H3.2.2 43 = some (iC 60 hd') := by rw [hH3, tw_sg, if_pos rfl]
            have g423 : H3.2.2 42 = some (iC 240 sf) := by rw [hH3, tw_sg, if_neg (by decide)]; exact gH2.2.2.1
            have hb := m_back_loop (h := H3) (sf := sf) (hd := hd') (k := kj) (n := m) (i := i') (o := oj) (j := j') g273 g433 (by omega) (by omega) m 0 (by omega)
            rw [cpy_0, tw_si H3 g423, nI_0] at hb
            rw [← hH3] at hl K1 K2 K3
            refine ⟨.int (nI m), H2, _, ?_, ?_, K1, by omega, by omega⟩
            · simp [s94_0, s94_1, s94_2, s94_5, s94_6, s94_7, s94_10, s94_13, s94_14, s94_15, s94_18, s94_21, s94_22, s94_23, s94_24, s94_25, s94_28, s94_28n, s94_30, s94_31, s94_32, s94_35, s94_35m, s94_35n, s94_35nm, s94_37, s94_37n, s94_39, s94_39n, s94_42, s94_42n, s94_44, s94_44n, s94_47, s94_48, s94_49, s94_52, s94_53, s94_53n, s94_55, s94_58, s94_58n, s94_60, s94_63, s94_66, s94_67, s94_68, s94_71, s94_72, s94_72n, s94_74, s94_75, s94_77, s94_80, s94_83, s94_83n, s94_85, s94_87, s94_89, s94_92, s94_95, s94_96, s94_97, s94_100, s94_101, s94_101n, s94_103, s94_106, s94_107, s94_107n, s94_109, s94_112, s94_114, s94_116, s94_119, s94_121, tw_sf, xX, tw_fit, ← hH1, xco g1, es, es2, er, er2, tw_bi_0, tw_gf, ga, ga2, c0, c1, p1, hco, hco2, ech, ech2, hac]
            · rw [← hb]
              have s1 : tw_b 170 0 [.ref 27, .int (nI kj), .int (nI i'), .int (nI oj), .int (nI j'), .int (nI m), tw_un] [] H2 = tw_b 170 107 [.ref 27, .int (nI kj), .int (nI i'), .int (nI oj), .int (nI j'), .int (nI m), .int 0] [] H2 := by
                simp [s170_0, s170_1, s170_4, s170_7, s170_8, s170_11, s170_14, s170_15, s170_16, s170_19, s170_20, s170_21, s170_24, s170_25, s170_26, s170_29, s170_30, s170_33, s170_34, s170_35, s170_38, s170_39, s170_40, s170_43, s170_44, s170_45, s170_48, s170_49, s170_50, s170_51, s170_54, s170_55, s170_56, s170_59, s170_60, s170_61, s170_64, s170_65, s170_66, s170_68, s170_69, s170_70, s170_73, s170_74, s170_75, s170_78, s170_81, s170_83, s170_85, s170_86, s170_87, s170_90, s170_91, s170_92, s170_95, s170_98, s170_99, s170_100, s170_103, s170_104, s170_105, s170_109, s170_111, s170_114, s170_115, s170_118, s170_120, s170_121, s170_124, s170_126, s170_127, s170_128, s170_129, s170_130, s170_132, s170_133, s170_134, s170_135, s170_138, s170_142, s170_146, s170_148, s170_151, s170_152, s170_155, s170_157, s170_158, s170_159, s170_161, s170_162, s170_164, s170_165, s170_166, s170_169, s170_171, s170_172, s170_173, s170_176, s170_179, s170_180, s170_182, s170_185, en, en2, tw_bi_0, mco g27, tw_gf, tw_ia, g27, gH2.1, gH2.2.1, ev, ec, ev2, ec2, y8, w8, e0, f0, p1, eb1, eb2]
              rw [s1, hl]
              simp [s170_141, s170_142]
          · refine two_fl hX hS hM hR 3 a1 a2 a3 (.int (-13)) ?_ ?_
            · have ef := x_faulted g1 3
              rw [hH1, tw_ss, ← hH1] at ef
              by_cases z : rchB (nn kj) i n = true
              · have z2 : rchB (nn oj) j n = false := by simpa using fun y => q1 ⟨z, y⟩
                rw [z] at ech
                rw [z2] at ech2
                simp [s94_0, s94_1, s94_2, s94_5, s94_6, s94_7, s94_10, s94_13, s94_14, s94_15, s94_18, s94_21, s94_22, s94_23, s94_24, s94_25, s94_28, s94_28n, s94_30, s94_31, s94_32, s94_35, s94_35m, s94_35n, s94_35nm, s94_37, s94_37n, s94_39, s94_39n, s94_42, s94_42n, s94_44, s94_44n, s94_47, s94_48, s94_49, s94_52, s94_53, s94_53n, s94_55, s94_58, s94_58n, s94_60, s94_63, s94_66, s94_67, s94_68, s94_71, s94_72, s94_72n, s94_74, s94_75, s94_77, s94_80, s94_83, s94_83n, s94_85, s94_87, s94_89, s94_92, s94_95, s94_96, s94_97, s94_100, s94_101, s94_101n, s94_103, s94_106, s94_107, s94_107n, s94_109, s94_112, s94_114, s94_116, s94_119, s94_121, tw_sf, xX, tw_fit, ← hH1, xco g1, es, es2, er, er2, tw_bi_0, tw_gf, ga, ga2, c0, c1, p1, hco, hco2, ech, ech2, ef]
              · have z2 : rchB (nn kj) i n = false := by simpa using z
                rw [z2] at ech
                simp [s94_0, s94_1, s94_2, s94_5, s94_6, s94_7, s94_10, s94_13, s94_14, s94_15, s94_18, s94_21, s94_22, s94_23, s94_24, s94_25, s94_28, s94_28n, s94_30, s94_31, s94_32, s94_35, s94_35m, s94_35n, s94_35nm, s94_37, s94_37n, s94_39, s94_39n, s94_42, s94_42n, s94_44, s94_44n, s94_47, s94_48, s94_49, s94_52, s94_53, s94_53n, s94_55, s94_58, s94_58n, s94_60, s94_63, s94_66, s94_67, s94_68, s94_71, s94_72, s94_72n, s94_74, s94_75, s94_77, s94_80, s94_83, s94_83n, s94_85, s94_87, s94_89, s94_92, s94_95, s94_96, s94_97, s94_100, s94_101, s94_101n, s94_103, s94_106, s94_107, s94_107n, s94_109, s94_112, s94_114, s94_116, s94_119, s94_121, tw_sf, xX, tw_fit, ← hH1, xco g1, es, es2, er, er2, tw_bi_0, tw_gf, ga, ga2, c0, c1, p1, hco, hco2, ech, ef]
            · by_cases z : rchB (nn kj) i n = true
              · have z2 : rchB (nn oj) j n = false := by simpa using fun y => q1 ⟨z, y⟩
                simp only [z] at eb1
                simp only [z2] at eb2
                simp [s170_0, s170_1, s170_4, s170_7, s170_8, s170_11, s170_14, s170_15, s170_16, s170_19, s170_20, s170_21, s170_24, s170_25, s170_26, s170_29, s170_30, s170_33, s170_34, s170_35, s170_38, s170_39, s170_40, s170_43, s170_44, s170_45, s170_48, s170_49, s170_50, s170_51, s170_54, s170_55, s170_56, s170_59, s170_60, s170_61, s170_64, s170_65, s170_66, s170_68, s170_69, s170_70, s170_73, s170_74, s170_75, s170_78, s170_81, s170_83, s170_85, s170_86, s170_87, s170_90, s170_91, s170_92, s170_95, s170_98, s170_99, s170_100, s170_103, s170_104, s170_105, s170_109, s170_111, s170_114, s170_115, s170_118, s170_120, s170_121, s170_124, s170_126, s170_127, s170_128, s170_129, s170_130, s170_132, s170_133, s170_134, s170_135, s170_138, s170_142, s170_146, s170_148, s170_151, s170_152, s170_155, s170_157, s170_158, s170_159, s170_161, s170_162, s170_164, s170_165, s170_166, s170_169, s170_171, s170_172, s170_173, s170_176, s170_179, s170_180, s170_182, s170_185, en, en2, tw_bi_0, mco (gM 3), tw_gf, tw_ia, gM 3, (gH 3).1, (gH 3).2.1, ev, ec, ev2, ec2, y8, w8, e0, f0, p1, eb1, eb2, m_failed (gM 3)]
              · have z2 : rchB (nn kj) i n = false := by simpa using z
                simp only [z2] at eb1
                simp [s170_0, s170_1, s170_4, s170_7, s170_8, s170_11, s170_14, s170_15, s170_16, s170_19, s170_20, s170_21, s170_24, s170_25, s170_26, s170_29, s170_30, s170_33, s170_34, s170_35, s170_38, s170_39, s170_40, s170_43, s170_44, s170_45, s170_48, s170_49, s170_50, s170_51, s170_54, s170_55, s170_56, s170_59, s170_60, s170_61, s170_64, s170_65, s170_66, s170_68, s170_69, s170_70, s170_73, s170_74, s170_75, s170_78, s170_81, s170_83, s170_85, s170_86, s170_87, s170_90, s170_91, s170_92, s170_95, s170_98, s170_99, s170_100, s170_103, s170_104, s170_105, s170_109, s170_111, s170_114, s170_115, s170_118, s170_120, s170_121, s170_124, s170_126, s170_127, s170_128, s170_129, s170_130, s170_132, s170_133, s170_134, s170_135, s170_138, s170_142, s170_146, s170_148, s170_151, s170_152, s170_155, s170_157, s170_158, s170_159, s170_161, s170_162, s170_164, s170_165, s170_166, s170_169, s170_171, s170_172, s170_173, s170_176, s170_179, s170_180, s170_182, s170_185, en, en2, tw_bi_0, mco (gM 3), tw_gf, tw_ia, gM 3, (gH 3).1, (gH 3).2.1, ev, ec, ev2, ec2, y8, w8, e0, f0, p1, eb1, m_failed (gM 3)]
        · refine two_fl hX hS hM hR 2 a1 a2 a3 (.int (-12)) ?_ ?_
          · have ef := x_faulted g1 2
            rw [hH1, tw_ss, ← hH1] at ef
            simp [s94_0, s94_1, s94_2, s94_5, s94_6, s94_7, s94_10, s94_13, s94_14, s94_15, s94_18, s94_21, s94_22, s94_23, s94_24, s94_25, s94_28, s94_28n, s94_30, s94_31, s94_32, s94_35, s94_35m, s94_35n, s94_35nm, s94_37, s94_37n, s94_39, s94_39n, s94_42, s94_42n, s94_44, s94_44n, s94_47, s94_48, s94_49, s94_52, s94_53, s94_53n, s94_55, s94_58, s94_58n, s94_60, s94_63, s94_66, s94_67, s94_68, s94_71, s94_72, s94_72n, s94_74, s94_75, s94_77, s94_80, s94_83, s94_83n, s94_85, s94_87, s94_89, s94_92, s94_95, s94_96, s94_97, s94_100, s94_101, s94_101n, s94_103, s94_106, s94_107, s94_107n, s94_109, s94_112, s94_114, s94_116, s94_119, s94_121, tw_sf, xX, tw_fit, ← hH1, xco g1, es, es2, er, er2, tw_bi_0, tw_gf, ga, ga2, c0, c1, p1, ef]
          · simp [s170_0, s170_1, s170_4, s170_7, s170_8, s170_11, s170_14, s170_15, s170_16, s170_19, s170_20, s170_21, s170_24, s170_25, s170_26, s170_29, s170_30, s170_33, s170_34, s170_35, s170_38, s170_39, s170_40, s170_43, s170_44, s170_45, s170_48, s170_49, s170_50, s170_51, s170_54, s170_55, s170_56, s170_59, s170_60, s170_61, s170_64, s170_65, s170_66, s170_68, s170_69, s170_70, s170_73, s170_74, s170_75, s170_78, s170_81, s170_83, s170_85, s170_86, s170_87, s170_90, s170_91, s170_92, s170_95, s170_98, s170_99, s170_100, s170_103, s170_104, s170_105, s170_109, s170_111, s170_114, s170_115, s170_118, s170_120, s170_121, s170_124, s170_126, s170_127, s170_128, s170_129, s170_130, s170_132, s170_133, s170_134, s170_135, s170_138, s170_142, s170_146, s170_148, s170_151, s170_152, s170_155, s170_157, s170_158, s170_159, s170_161, s170_162, s170_164, s170_165, s170_166, s170_169, s170_171, s170_172, s170_173, s170_176, s170_179, s170_180, s170_182, s170_185, en, en2, tw_bi_0, mco (gM 2), tw_gf, tw_ia, gM 2, (gH 2).1, (gH 2).2.1, ev, ec, ev2, ec2, y8, w8, e0, f0, p1, m_failed (gM 2)]
  · refine two_fl hX hS hM hR 0 a1 a2 a3 (.int (-1)) ?_ ?_
    · by_cases q1 : ¬ k < 0 ∧ k < 4
      · rw [decide_eq_true q1] at es
        rw [decide_eq_false (fun z => q ⟨q1, z⟩)] at es2
        simp [s94_0, s94_1, s94_2, s94_5, s94_6, s94_7, s94_10, s94_13, s94_14, s94_15, s94_18, s94_21, s94_22, s94_23, s94_24, s94_25, s94_28, s94_28n, s94_30, s94_31, s94_32, s94_35, s94_35m, s94_35n, s94_35nm, s94_37, s94_37n, s94_39, s94_39n, s94_42, s94_42n, s94_44, s94_44n, s94_47, s94_48, s94_49, s94_52, s94_53, s94_53n, s94_55, s94_58, s94_58n, s94_60, s94_63, s94_66, s94_67, s94_68, s94_71, s94_72, s94_72n, s94_74, s94_75, s94_77, s94_80, s94_83, s94_83n, s94_85, s94_87, s94_89, s94_92, s94_95, s94_96, s94_97, s94_100, s94_101, s94_101n, s94_103, s94_106, s94_107, s94_107n, s94_109, s94_112, s94_114, s94_116, s94_119, s94_121, tw_sf, xX, tw_fit, ← hH1, xco g1, es, es2, tw_bi_0]
      · rw [decide_eq_false q1] at es
        simp [s94_0, s94_1, s94_2, s94_5, s94_6, s94_7, s94_10, s94_13, s94_14, s94_15, s94_18, s94_21, s94_22, s94_23, s94_24, s94_25, s94_28, s94_28n, s94_30, s94_31, s94_32, s94_35, s94_35m, s94_35n, s94_35nm, s94_37, s94_37n, s94_39, s94_39n, s94_42, s94_42n, s94_44, s94_44n, s94_47, s94_48, s94_49, s94_52, s94_53, s94_53n, s94_55, s94_58, s94_58n, s94_60, s94_63, s94_66, s94_67, s94_68, s94_71, s94_72, s94_72n, s94_74, s94_75, s94_77, s94_80, s94_83, s94_83n, s94_85, s94_87, s94_89, s94_92, s94_95, s94_96, s94_97, s94_100, s94_101, s94_101n, s94_103, s94_106, s94_107, s94_107n, s94_109, s94_112, s94_114, s94_116, s94_119, s94_121, tw_sf, xX, tw_fit, ← hH1, xco g1, es, tw_bi_0]
    · by_cases q1 : ¬ k < 0 ∧ k < 4
      · simp only [decide_eq_true q1] at en
        simp only [decide_eq_false (fun z => q ⟨q1, z⟩)] at en2
        simp [s170_0, s170_1, s170_4, s170_7, s170_8, s170_11, s170_14, s170_15, s170_16, s170_19, s170_20, s170_21, s170_24, s170_25, s170_26, s170_29, s170_30, s170_33, s170_34, s170_35, s170_38, s170_39, s170_40, s170_43, s170_44, s170_45, s170_48, s170_49, s170_50, s170_51, s170_54, s170_55, s170_56, s170_59, s170_60, s170_61, s170_64, s170_65, s170_66, s170_68, s170_69, s170_70, s170_73, s170_74, s170_75, s170_78, s170_81, s170_83, s170_85, s170_86, s170_87, s170_90, s170_91, s170_92, s170_95, s170_98, s170_99, s170_100, s170_103, s170_104, s170_105, s170_109, s170_111, s170_114, s170_115, s170_118, s170_120, s170_121, s170_124, s170_126, s170_127, s170_128, s170_129, s170_130, s170_132, s170_133, s170_134, s170_135, s170_138, s170_142, s170_146, s170_148, s170_151, s170_152, s170_155, s170_157, s170_158, s170_159, s170_161, s170_162, s170_164, s170_165, s170_166, s170_169, s170_171, s170_172, s170_173, s170_176, s170_179, s170_180, s170_182, s170_185, en, en2, tw_bi_0, mco (gM 0), m_refused (gM 0)]
      · simp only [decide_eq_false q1] at en
        simp [s170_0, s170_1, s170_4, s170_7, s170_8, s170_11, s170_14, s170_15, s170_16, s170_19, s170_20, s170_21, s170_24, s170_25, s170_26, s170_29, s170_30, s170_33, s170_34, s170_35, s170_38, s170_39, s170_40, s170_43, s170_44, s170_45, s170_48, s170_49, s170_50, s170_51, s170_54, s170_55, s170_56, s170_59, s170_60, s170_61, s170_64, s170_65, s170_66, s170_68, s170_69, s170_70, s170_73, s170_74, s170_75, s170_78, s170_81, s170_83, s170_85, s170_86, s170_87, s170_90, s170_91, s170_92, s170_95, s170_98, s170_99, s170_100, s170_103, s170_104, s170_105, s170_109, s170_111, s170_114, s170_115, s170_118, s170_120, s170_121, s170_124, s170_126, s170_127, s170_128, s170_129, s170_130, s170_132, s170_133, s170_134, s170_135, s170_138, s170_142, s170_146, s170_148, s170_151, s170_152, s170_155, s170_157, s170_158, s170_159, s170_161, s170_162, s170_164, s170_165, s170_166, s170_169, s170_171, s170_172, s170_173, s170_176, s170_179, s170_180, s170_182, s170_185, en, tw_bi_0, mco (gM 0), m_refused (gM 0)]
end L2
