/-! plans, both -/
theorem rfS_congr {D D' : Nat → Int32} {nw N : Nat} (e : ∀ x, x < 2 * N → D x = D' x) : ∀ (d s : Nat), s + d ≤ N → rfS D nw s d = rfS D' nw s d := by
  intro d
  induction d with
  | zero => intro s _; rfl
  | succ d ih =>
    intro s hs
    simp only [rfS]
    rw [e (2 * s) (by omega), e (2 * s + 1) (by omega), ih (s + 1) (by omega)]
theorem wgS_congr {D D' : Nat → Int32} {N : Nat} (e : ∀ x, x < 2 * N → D x = D' x) : ∀ (d s : Nat), s + d ≤ N → wgS D s d = wgS D' s d := by
  intro d
  induction d with
  | zero => intro s _; rfl
  | succ d ih =>
    intro s hs
    simp only [wgS]
    rw [e (2 * s) (by omega), e (2 * s - 2) (by omega), ih (s + 1) (by omega)]
theorem inS_congr {D D' : Nat → Int32} {hour : Int32} {N : Nat} (e : ∀ x, x < 2 * N → D x = D' x) : ∀ (d r : Nat) (set : Int32), r + d ≤ N → inS D hour r d set = inS D' hour r d set := by
  intro d
  induction d with
  | zero => intro r set _; rfl
  | succ d ih =>
    intro r set hr
    simp only [inS]
    rw [e (2 * r) (by omega), e (2 * r + 1) (by omega), ih (r + 1) _ (by omega)]
theorem pnS_congr {D D' : Nat → Int32} {n : Nat} {stp stp' : Int32 → Int32 → Int32} (e : ∀ x, x < 2 * n → D x = D' x) (es : ∀ set s, s < 60 → stp set (nI s) = stp' set (nI s)) : ∀ (d s r : Nat) (set acc : Int32), s + d ≤ 60 → r ≤ n → pnS D n stp s d r set acc = pnS D' n stp' s d r set acc := by
  intro d
  induction d with
  | zero => intro s r set acc _ _; rfl
  | succ d ih =>
    intro s r set acc hs hr
    simp only [pnS]
    have hle := inS_le (D := D') (hour := nI s) (n - r) r set
    rw [inS_congr e (n - r) r set (by omega), es _ s (by omega)]
    exact ih (s + 1) _ _ _ (by omega) (by omega)
theorem fcF_4 (ln : Int32) (n : Nat) (lane i m : Int32) : fcF ln n lane i m = 0 ∨ fcF ln n lane i m = 2 ∨ fcF ln n lane i m = 3 ∨ fcF ln n lane i m = 4 := by
  unfold fcF
  by_cases q1 : ln = lane
  · rw [if_pos q1]
    by_cases q2 : m < 0
    · rw [if_pos q2]; exact Or.inr (Or.inr (Or.inr rfl))
    · rw [if_neg q2]
      by_cases q3 : rchB n i m = true
      · rw [if_pos q3]; exact Or.inl rfl
      · rw [if_neg q3]; exact Or.inr (Or.inr (Or.inl rfl))
  · rw [if_neg q1]; exact Or.inr (Or.inl rfl)
theorem fcF_0 {ln : Int32} {n : Nat} {lane i m : Int32} (h : fcF ln n lane i m = 0) : ln = lane ∧ ¬ m < 0 ∧ rchB n i m = true := by
  unfold fcF at h
  by_cases q1 : ln = lane
  · rw [if_pos q1] at h
    by_cases q2 : m < 0
    · rw [if_pos q2] at h; exact absurd h (by decide)
    · rw [if_neg q2] at h
      by_cases q3 : rchB n i m = true
      · exact ⟨q1, q2, q3⟩
      · rw [if_neg q3] at h; exact absurd h (by decide)
  · rw [if_neg q1] at h; exact absurd h (by decide)
theorem l_two {m : Nat} (h : m ≤ 30) : (2 : Int64) * (nI m).toInt64 = (nI (2 * m)).toInt64 := by
  have : ∀ m : Fin 31, (2 : Int64) * (nI m.1).toInt64 = (nI (2 * m.1)).toInt64 := by decide +kernel
  exact this ⟨m, by omega⟩
theorem m_in30 (v : Int32) (h : tw_H) : tw_b 111 0 [.long v.toInt64, tw_un, .long 0, tw_un, .long 30, tw_un] [] h = some (some (.int (tw_bi (decide (¬ v < 0 ∧ ¬ 30 < v)))), h) := by
  have i3 : ((0 : Int64) ≤ v.toInt64) = ¬ v < 0 := l_ge v 0 0 rfl
  have i4 : (v.toInt64 ≤ (30 : Int64)) = ¬ 30 < v := l_le v 30 30 rfl
  have hi := m_in v.toInt64 0 30 h
  by_cases q : ¬ v < 0 ∧ ¬ 30 < v
  · rw [show decide ((0 : Int64) ≤ v.toInt64 ∧ v.toInt64 ≤ 30) = true from by rw [decide_eq_true_iff, i3, i4]; exact q] at hi
    rw [hi, decide_eq_true q]
  · rw [show decide ((0 : Int64) ≤ v.toInt64 ∧ v.toInt64 ≤ 30) = false from by rw [decide_eq_false_iff_not, i3, i4]; exact q] at hi
    rw [hi, decide_eq_false q]
section N1
variable {h : tw_H}
theorem c_plan (I : Inv h) (k lane i n : Int32) : Two h 72 [.ref 1, .int k, .int lane, .int i, .int n, tw_un, tw_un, tw_un, tw_un] 152 [.ref 27, .int k, .int lane, .int i, .int n, tw_un, tw_un, tw_un] := by
  obtain ⟨nw, nt, s0, ns, nr, hk, lw, fl, tr, tfx, tfm, sw, sh, sa, f34, f35, r1, r2, r3, ft, fo, kd, wt, sz, ln, sf, g, hX, hS, hM, hR⟩ := id I
  obtain ⟨x44, xX, xS, xR, xK, ⟨oa, ob, xO⟩, ⟨lf, xL⟩, xW, xWK, xT, xTx⟩ := id hX
  obtain ⟨⟨a1, a2, a3, mZ⟩, mR, ⟨hd, mH⟩, ⟨mf, mL⟩, mA⟩ := id hM
  obtain ⟨r8, r6, r0, rs, rW, rT, rN, rF⟩ := id hR
  obtain ⟨gs, ra', rb', nn, hSo⟩ := hS.opn
  obtain ⟨H1, hH1⟩ : ∃ H1, H1 = tw_set h 1 (xC (nI nw) hk lw (nI s0) 0) := ⟨_, rfl⟩
  have o1 : ∀ a, a ≠ 1 → H1.2.2 a = h.2.2 a := fun a ha => by rw [hH1, tw_sg, if_neg ha]
  have g1 : H1.2.2 1 = some (xC (nI nw) hk lw (nI s0) 0) := by rw [hH1, tw_sg, if_pos rfl]
  have g2 : H1.2.2 2 = some (rC 1 4 gs) := by rw [o1 2 (by decide)]; exact hSo.1
  have es := x_isSheet g1 g2 k
  have er := x_rowOf g1 g2 k
  have en := fun h => m_noSheet k h
  have el := fun h => x_isLane lane h
  have em := fun h => m_in2 lane h
  have e30 := fun h => m_in30 n h
  have gM : ∀ fl', (tw_set h 1 (xC (nI nw) hk lw (nI s0) fl')).2.2 27 = some (mC fl (nI nt) (nI nw) hk lw (nI s0) (-9) a1 a2 a3 (nI ns) (nI nr) tr) := fun fl' => by rw [tw_sg, if_neg (by decide)]; exact mZ.1
  have gH : ∀ fl', MH (tw_set h 1 (xC (nI nw) hk lw (nI s0) fl')) sz ln sf hd := fun fl' => by
    unfold MH at mH ⊢
    simp only [tw_sg]
    simpa using mH
  by_cases q : ¬ k < 0 ∧ k < 4
  · rw [decide_eq_true q] at es
    simp only [decide_eq_true q] at en
    by_cases q1 : (¬ lane < 0 ∧ lane < 3) ∧ (¬ n < 0 ∧ ¬ 30 < n)
    · simp only [decide_eq_true q1.1] at el em
      simp only [decide_eq_true q1.2] at e30
      by_cases hw0 : nw = 0
      · have w0 : nI nw = 0 := by rw [hw0]; rfl
        have ent := x_hasNoTown g1
        rw [decide_eq_true w0] at ent
        refine two_fl hX hS hM hR 0 a1 a2 a3 (.int (-3)) ?_ ?_
        · simp [s72_0, s72_1, s72_2, s72_5, s72_6, s72_7, s72_10, s72_13, s72_14, s72_15, s72_16, s72_19, s72_22, s72_24, s72_27, s72_29, s72_31, s72_34, s72_36, s72_37, s72_38, s72_41, s72_44, s72_46, s72_47, s72_48, s72_49, s72_52, s72_52n, s72_54, s72_54n, s72_56, s72_57, s72_58, s72_59, s72_61, s72_62, s72_62n, s72_65, s72_65m, s72_67, s72_67n, s72_69, s72_69n, s72_72, s72_74, s72_77, s72_78, s72_80, s72_83, s72_84, s72_85, s72_85n, s72_87, s72_88, s72_90, s72_90n, s72_93, s72_95, s72_97, s72_100, s72_102, s72_103, s72_103n, s72_105, s72_106, s72_108, s72_108n, s72_111, s72_113, s72_115, s72_117, s72_120, s72_121, s72_121n, s72_123, s72_124, s72_126, s72_126n, s72_129, s72_132, s72_134, s72_136, s72_137, tw_sf, xX, tw_fit, ← hH1, xco g1, es, el, tw_bi_0, q1.2, ent]
        · simp [s152_0, s152_0, s152_1, s152_4, s152_7, s152_8, s152_9, s152_12, s152_13, s152_14, s152_15, s152_16, s152_19, s152_22, s152_25, s152_27, s152_28, s152_29, s152_32, s152_35, s152_38, s152_39, s152_41, s152_44, s152_45, s152_46, s152_49, s152_52, s152_53, s152_55, s152_58, s152_59, s152_60, s152_61, s152_62, s152_63, s152_66, s152_68, s152_69, s152_70, s152_73, s152_75, s152_77, s152_80, s152_82, s152_83, s152_85, s152_86, s152_87, s152_88, s152_89, s152_91, s152_92, s152_96, s152_98, s152_101, s152_102, s152_105, s152_107, s152_108, s152_110, s152_111, s152_112, s152_113, s152_116, s152_119, s152_120, s152_122, s152_125, s152_126, s152_127, s152_128, s152_131, s152_133, s152_134, s152_136, s152_137, s152_138, s152_139, s152_140, s152_141, s152_144, s152_147, s152_148, s152_149, s152_152, s152_153, s152_156, s152_160, s152_164, s152_166, s152_169, s152_170, s152_173, s152_175, s152_176, s152_178, s152_179, s152_180, s152_181, s152_182, s152_185, s152_187, s152_188, s152_190, s152_191, s152_192, s152_193, s152_194, s152_195, s152_198, s152_199, s152_201, s152_203, s152_204, s152_207, s152_208, s152_211, s152_215, s152_216, s152_218, s152_220, s152_223, s152_226, en, em, e30, tw_bi_0, tw_gf, gM 0, eq_true w0, mco (gM 0), m_refused (gM 0)]
      have hw : 0 < nw := by omega
      have n0 : 0 < nt := by
        by_cases z : nt = 0
        · have := r0.mpr z; omega
        · omega
      have hs0 := rs hw
      have hT := tid_ok n0 r6 hs0
      have hf1 := fun j (hj : j < 8) => (rF hw j hj).1
      have hf2 := fun j (hj : j < 8) => (rF hw j hj).2
      have wne : ¬ nI nw = 0 := nI_ne0 hw (by omega)
      have n6 : ns ≤ 6 := xS.2.2.2.2.2.2
      have hst := st_eq (hk := hk) (sh := sh) (sa := sa) (f34 := f34) (f35 := f35) n0 r6 hs0 rT rN hf1 hf2
      have hstr := fun s (hs : s < 60) => str_eq (sh := sh) (sa := sa) (f34 := f34) (f35 := f35) n0 r6 hs0 rT rN hs
      obtain ⟨j, hj, rfl⟩ := below_of (N := 4) (by decide) q
      obtain ⟨m, hm, rfl⟩ := nI_of q1.2.1
      have hm30 : m ≤ 30 := by
        by_cases z : 30 < m
        · exact absurd (nI_lt (a := 30) z hm) q1.2.2
        · omega
      have ev := tw_vi_n (show j < 4 by omega) (by decide)
      have ec := nI_clamp (show j < 2 ^ 31 by omega)
      unfold rwV at er
      rw [if_pos ev, ec] at er
      rcases hSo.2 j hj with ⟨y1, y2⟩ | ⟨y1, y2, y3, y4, y5, y6, y7, y8, ⟨f, y9, y10⟩, y11⟩
      · rw [y1] at er
        simp only [tw_rf] at er
        refine two_fl hX hS hM hR 1 a1 a2 a3 (.int (-11)) ?_ ?_
        · have ef := x_faulted g1 1
          rw [hH1, tw_ss, ← hH1] at ef
          simp [s72_0, s72_1, s72_2, s72_5, s72_6, s72_7, s72_10, s72_13, s72_14, s72_15, s72_16, s72_19, s72_22, s72_24, s72_27, s72_29, s72_31, s72_34, s72_36, s72_37, s72_38, s72_41, s72_44, s72_46, s72_47, s72_48, s72_49, s72_52, s72_52n, s72_54, s72_54n, s72_56, s72_57, s72_58, s72_59, s72_61, s72_62, s72_62n, s72_65, s72_65m, s72_67, s72_67n, s72_69, s72_69n, s72_72, s72_74, s72_77, s72_78, s72_80, s72_83, s72_84, s72_85, s72_85n, s72_87, s72_88, s72_90, s72_90n, s72_93, s72_95, s72_97, s72_100, s72_102, s72_103, s72_103n, s72_105, s72_106, s72_108, s72_108n, s72_111, s72_113, s72_115, s72_117, s72_120, s72_121, s72_121n, s72_123, s72_124, s72_126, s72_126n, s72_129, s72_132, s72_134, s72_136, s72_137, tw_sf, xX, tw_fit, ← hH1, xco g1, es, el, tw_bi_0, q1.2, x_hasNoTown g1, wne, er, x_fault0, ef]
        · simp [s152_0, s152_0, s152_1, s152_4, s152_7, s152_8, s152_9, s152_12, s152_13, s152_14, s152_15, s152_16, s152_19, s152_22, s152_25, s152_27, s152_28, s152_29, s152_32, s152_35, s152_38, s152_39, s152_41, s152_44, s152_45, s152_46, s152_49, s152_52, s152_53, s152_55, s152_58, s152_59, s152_60, s152_61, s152_62, s152_63, s152_66, s152_68, s152_69, s152_70, s152_73, s152_75, s152_77, s152_80, s152_82, s152_83, s152_85, s152_86, s152_87, s152_88, s152_89, s152_91, s152_92, s152_96, s152_98, s152_101, s152_102, s152_105, s152_107, s152_108, s152_110, s152_111, s152_112, s152_113, s152_116, s152_119, s152_120, s152_122, s152_125, s152_126, s152_127, s152_128, s152_131, s152_133, s152_134, s152_136, s152_137, s152_138, s152_139, s152_140, s152_141, s152_144, s152_147, s152_148, s152_149, s152_152, s152_153, s152_156, s152_160, s152_164, s152_166, s152_169, s152_170, s152_173, s152_175, s152_176, s152_178, s152_179, s152_180, s152_181, s152_182, s152_185, s152_187, s152_188, s152_190, s152_191, s152_192, s152_193, s152_194, s152_195, s152_198, s152_199, s152_201, s152_203, s152_204, s152_207, s152_208, s152_211, s152_215, s152_216, s152_218, s152_220, s152_223, s152_226, en, em, e30, tw_bi_0, tw_gf, gM 1, wne, mco (gM 1), m_barred0 (gM 1) (gH 1) hj y2]
      · rw [y1] at er
        simp only [tw_rf] at er
        have ga : H1.2.2 (ra' j) = some (oC 3 [.int (ln j), .ref (rb' j)]) := by rw [o1 _ (by omega)]; exact y6
        have gb : H1.2.2 (rb' j) = some (iC (nn j) f) := by rw [o1 _ (by omega)]; exact y9
        have a0 : ra' j ≠ 0 := by omega
        have efc := x_fault ga a0 gb lane i (nI (2 * m))
        have bad : ∀ c : Int32, ¬ c = 0 → (-10 - c : Int32) < 0 → fcF (ln j) (nn j) lane i (nI (2 * m)) = c → Two h 72 [.ref 1, .int (nI j), .int lane, .int i, .int (nI m), tw_un, tw_un, tw_un, tw_un] 152 [.ref 27, .int (nI j), .int lane, .int i, .int (nI m), tw_un, tw_un, tw_un] := fun c hc hlt hfc => by
          rw [hfc] at efc
          have ef := x_faulted g1 c
          rw [hH1, tw_ss, ← hH1] at ef
          have emb := m_barred (gM c) (gH c) hj y8 (by omega) lane i (nI (2 * m))
          rw [hfc, if_neg hc] at emb
          refine two_fl hX hS hM hR c a1 a2 a3 (.int (-10 - c)) ?_ ?_
          · simp [s72_0, s72_1, s72_2, s72_5, s72_6, s72_7, s72_10, s72_13, s72_14, s72_15, s72_16, s72_19, s72_22, s72_24, s72_27, s72_29, s72_31, s72_34, s72_36, s72_37, s72_38, s72_41, s72_44, s72_46, s72_47, s72_48, s72_49, s72_52, s72_52n, s72_54, s72_54n, s72_56, s72_57, s72_58, s72_59, s72_61, s72_62, s72_62n, s72_65, s72_65m, s72_67, s72_67n, s72_69, s72_69n, s72_72, s72_74, s72_77, s72_78, s72_80, s72_83, s72_84, s72_85, s72_85n, s72_87, s72_88, s72_90, s72_90n, s72_93, s72_95, s72_97, s72_100, s72_102, s72_103, s72_103n, s72_105, s72_106, s72_108, s72_108n, s72_111, s72_113, s72_115, s72_117, s72_120, s72_121, s72_121n, s72_123, s72_124, s72_126, s72_126n, s72_129, s72_132, s72_134, s72_136, s72_137, tw_sf, xX, tw_fit, ← hH1, xco g1, es, el, tw_bi_0, q1.2, x_hasNoTown g1, wne, er, nI_2, efc, hc, ef]
          · simp [s152_0, s152_0, s152_1, s152_4, s152_7, s152_8, s152_9, s152_12, s152_13, s152_14, s152_15, s152_16, s152_19, s152_22, s152_25, s152_27, s152_28, s152_29, s152_32, s152_35, s152_38, s152_39, s152_41, s152_44, s152_45, s152_46, s152_49, s152_52, s152_53, s152_55, s152_58, s152_59, s152_60, s152_61, s152_62, s152_63, s152_66, s152_68, s152_69, s152_70, s152_73, s152_75, s152_77, s152_80, s152_82, s152_83, s152_85, s152_86, s152_87, s152_88, s152_89, s152_91, s152_92, s152_96, s152_98, s152_101, s152_102, s152_105, s152_107, s152_108, s152_110, s152_111, s152_112, s152_113, s152_116, s152_119, s152_120, s152_122, s152_125, s152_126, s152_127, s152_128, s152_131, s152_133, s152_134, s152_136, s152_137, s152_138, s152_139, s152_140, s152_141, s152_144, s152_147, s152_148, s152_149, s152_152, s152_153, s152_156, s152_160, s152_164, s152_166, s152_169, s152_170, s152_173, s152_175, s152_176, s152_178, s152_179, s152_180, s152_181, s152_182, s152_185, s152_187, s152_188, s152_190, s152_191, s152_192, s152_193, s152_194, s152_195, s152_198, s152_199, s152_201, s152_203, s152_204, s152_207, s152_208, s152_211, s152_215, s152_216, s152_218, s152_220, s152_223, s152_226, en, em, e30, tw_bi_0, tw_gf, gM c, wne, mco (gM c), l_two hm30, emb, hlt]
        rcases fcF_4 (ln j) (nn j) lane i (nI (2 * m)) with hfc | hfc | hfc | hfc
        · obtain ⟨p1, _, p3⟩ := fcF_0 hfc
          rw [hfc] at efc
          obtain ⟨i', m', rfl, emm, l1⟩ := rch_of (by omega) p3
          have em2 : m' = 2 * m := by
            obtain ⟨x1, x2⟩ := of_decide_eq_true (show decide _ = true from p3)
            rw [emm] at x1 x2
            by_cases z : m' < 2 ^ 31
            · exact ((nI_eq (by omega) z).mp emm).symm
            · omega
          subst em2
          obtain ⟨b, hb⟩ : ∃ b, b = 60 * j + i' := ⟨_, rfl⟩
          have hb240 : b + 2 * m ≤ 240 := by omega
          have eD : ∀ x, x < 2 * m → f (i' + x) = sf (b + x) := fun x hx => by
            rw [y10 (i' + x) (by omega), hb, Nat.add_assoc]
          have g18 : H1.2.2 18 = some (rC 2 8 g) := by rw [o1 18 (by decide)]; exact xW
          have hrf := x_refusal_loop (h := H1) (N := nn j) (n := m) (i := i') g1 g18 (xWK.null r8) (fun k hk => by
            obtain ⟨z, hz, rfl⟩ := xWK.isref r8 (Classical.byContradiction fun y => hk ((xWK.null r8 k).mpr y))
            obtain ⟨a, wa, _⟩ := xWK.ref r8 hz
            exact ⟨a, wa⟩) ga a0 gb (by omega) (by omega) m 0 (by omega)
          rw [nI_0, rfS_congr (N := m) (D' := fun x => sf (b + x)) eD m 0 (by omega)] at hrf
          have hcoR : tw_co H1 (ra' j) = some 3 := by simp [tw_co, ga, a0]
          have emb := fun fl' => m_barred (gM fl') (gH fl') hj y8 (by omega) lane (nI i') (nI (2 * m))
          simp only [hfc, if_true] at emb
          have emr := fun fl' => m_ref_loop (h := tw_set h 1 (xC (nI nw) hk lw (nI s0) fl')) (n := m) (gM fl') (gH fl').2.2.1 hb240 (nI j) lane (nI i') 0 m 0 (by omega)
          simp only [nI_0] at emr
          have mstart : tw_b 152 0 [.ref 27, .int (nI j), .int lane, .int (nI i'), .int (nI m), tw_un, tw_un, tw_un] [] H1 = tw_b 152 94 [.ref 27, .int (nI j), .int lane, .int (nI i'), .int (nI m), .int 0, .int (nI b), .int 0] [] H1 := by
            have e1 := gM 0
            have e2 := emb 0
            rw [← hH1] at e1 e2
            simp [s152_0, s152_0, s152_1, s152_4, s152_7, s152_8, s152_9, s152_12, s152_13, s152_14, s152_15, s152_16, s152_19, s152_22, s152_25, s152_27, s152_28, s152_29, s152_32, s152_35, s152_38, s152_39, s152_41, s152_44, s152_45, s152_46, s152_49, s152_52, s152_53, s152_55, s152_58, s152_59, s152_60, s152_61, s152_62, s152_63, s152_66, s152_68, s152_69, s152_70, s152_73, s152_75, s152_77, s152_80, s152_82, s152_83, s152_85, s152_86, s152_87, s152_88, s152_89, s152_91, s152_92, s152_96, s152_98, s152_101, s152_102, s152_105, s152_107, s152_108, s152_110, s152_111, s152_112, s152_113, s152_116, s152_119, s152_120, s152_122, s152_125, s152_126, s152_127, s152_128, s152_131, s152_133, s152_134, s152_136, s152_137, s152_138, s152_139, s152_140, s152_141, s152_144, s152_147, s152_148, s152_149, s152_152, s152_153, s152_156, s152_160, s152_164, s152_166, s152_169, s152_170, s152_173, s152_175, s152_176, s152_178, s152_179, s152_180, s152_181, s152_182, s152_185, s152_187, s152_188, s152_190, s152_191, s152_192, s152_193, s152_194, s152_195, s152_198, s152_199, s152_201, s152_203, s152_204, s152_207, s152_208, s152_211, s152_215, s152_216, s152_218, s152_220, s152_223, s152_226, en, em, e30, tw_bi_0, tw_gf, e1, wne, mco e1, l_two hm30, e2, nI_60, ← hb]
          by_cases u1 : rfS (fun x => sf (b + x)) nw 0 m = 0
          · rw [u1] at hrf
            simp only [u1, if_true] at emr
            have hDk : ∀ x, x < m → ∃ k, k < nw ∧ sf (b + (2 * x + 1)) = nI k := fun x hx => rfS_ok (by omega) m 0 u1 x (by omega) (by omega)
            have wx : tw_b 75 0 [.ref (ra' j), .int (nI i'), .int (nI m), tw_un] [] H1 = some (some (.int (if m = 0 then -9 else wgS (fun x => sf (b + x)) 1 (m - 1))), H1) := by
              by_cases z : m = 0
              · subst z
                rw [if_pos rfl]
                simp [s75_0, s75_1, s75_3, s75_4, s75_7, s75_7n, s75_8, s75_9, s75_10, s75_11, s75_12, s75_13, s75_16, s75_16n, s75_17, s75_18, s75_19, s75_20, s75_21, s75_22, s75_23, s75_24, s75_27, s75_30, s75_31, s75_32, s75_35, s75_38, s75_40, s75_2, nI_0]
              · rw [if_neg z]
                have := x_wrong_loop (h := H1) (N := nn j) (n := m) (i := i') ga a0 gb (by omega) (by omega) (m - 1) 1 (by omega) (by omega)
                rw [wgS_congr (N := m) (D' := fun x => sf (b + x)) eD (m - 1) 1 (by omega)] at this
                rw [← this]
                simp [s75_0, s75_1, show nI 1 = 1 from rfl]
            obtain ⟨wg, hwg⟩ : ∃ wg, wg = (if m = 0 then -9 else wgS (fun x => sf (b + x)) 1 (m - 1)) := ⟨_, rfl⟩
            rw [← hwg] at wx
            have wm : tw_b 152 159 [.ref 27, .int (nI j), .int lane, .int (nI i'), .int (nI m), .int 0, .int (nI b), .int (nI m)] [] H1 = (if wg = -9 then tw_b 152 214 [.ref 27, .int (nI j), .int lane, .int (nI i'), .int (nI m), .int 0, .int (nI b), .int (if m = 0 then 1 else nI m)] [] H1 else some (some (.int (-100 - wg)), tw_set H1 27 (mC 0 (nI nt) (nI nw) hk lw (nI s0) (-9) a1 a2 a3 (nI ns) (nI nr) tr))) := by
              have e1 := gM 0
              have e2 := (gH 0).2.2.1
              rw [← hH1] at e1 e2
              by_cases z : m = 0
              · subst z
                rw [hwg, if_pos rfl, if_pos rfl, if_pos rfl]
                simp [s152_0, s152_1, s152_4, s152_7, s152_8, s152_9, s152_12, s152_13, s152_14, s152_15, s152_16, s152_19, s152_22, s152_25, s152_27, s152_28, s152_29, s152_32, s152_35, s152_38, s152_39, s152_41, s152_44, s152_45, s152_46, s152_49, s152_52, s152_53, s152_55, s152_58, s152_59, s152_60, s152_61, s152_62, s152_63, s152_66, s152_68, s152_69, s152_70, s152_73, s152_75, s152_77, s152_80, s152_82, s152_83, s152_85, s152_86, s152_87, s152_88, s152_89, s152_91, s152_92, s152_96, s152_98, s152_101, s152_102, s152_105, s152_107, s152_108, s152_110, s152_111, s152_112, s152_113, s152_116, s152_119, s152_120, s152_122, s152_125, s152_126, s152_127, s152_128, s152_131, s152_133, s152_134, s152_136, s152_137, s152_138, s152_139, s152_140, s152_141, s152_144, s152_147, s152_148, s152_149, s152_152, s152_153, s152_156, s152_159, s152_160, s152_164, s152_166, s152_169, s152_170, s152_173, s152_175, s152_176, s152_178, s152_179, s152_180, s152_181, s152_182, s152_185, s152_187, s152_188, s152_190, s152_191, s152_192, s152_193, s152_194, s152_195, s152_198, s152_199, s152_201, s152_203, s152_204, s152_207, s152_208, s152_211, s152_215, s152_216, s152_218, s152_220, s152_223, s152_226, s152_162, nI_0]
              · rw [if_neg z] at hwg ⊢
                have := m_wrong_loop (h := H1) (n := m) e1 e2 hb240 hm30 (nI j) lane (nI i') 0 (m - 1) 1 (by omega) (by omega)
                rw [← hwg] at this
                rw [← this]
                simp [s152_159, s152_160, show nI 1 = 1 from rfl]
            by_cases u2 : wg = -9
            · rw [u2] at wx
              rw [if_pos u2] at wm
              have gS : XS H1 (nI nt) tfx ns sw sh sa := by rw [hH1]; exact xS.set (by omega)
              have gK : XK H1 19 20 21 ft fo := by rw [hH1]; exact xK.set (by decide)
              have hpl := x_plan_loop (h := H1) (N := nn j) (n := m) (i := i') g1 gS gK ga a0 gb (by omega) (by omega) 60 0 0 hk 0 (by omega) (by omega)
              have gZ : MZ H1 fl (nI nt) nw hk lw (nI s0) (-9) a1 a2 a3 ns (nI nr) tr tfm kd wt f34 f35 := by rw [hH1]; exact mZ.set (by omega)
              have g36 : H1.2.2 36 = some (iC 8 mf) := by rw [o1 36 (by decide)]; exact mL
              have g42 : H1.2.2 42 = some (iC 240 sf) := by rw [o1 42 (by decide)]; exact mH.2.2.1
              obtain ⟨f', hlb⟩ := m_lateBy (h := H1) (n := m) gZ r8 (by omega) hT g42 hb240 hDk rW g36
              have epn := pnS_congr (n := m) (D := fun x => f (i' + x)) (D' := fun x => sf (b + x)) (stp := fun set hour => spF ft fo set (strF (nI nt) tfx ns sh sa (nI s0) hour 0)) (stp' := fun set => stM nw kd wt (-9) lw set (nI nt) tfm ns f34 f35 (nI s0)) eD (fun set s hs => st_eq n0 r6 hs0 rT rN hf1 hf2 s hs) 60 0 0 hk 0 (by omega) (by omega)
              rw [epn, nI_0] at hpl
              obtain ⟨v, hv⟩ : ∃ v, v = pnS (fun x => sf (b + x)) m (fun set => stM nw kd wt (-9) lw set (nI nt) tfm ns f34 f35 (nI s0)) 0 60 0 hk 0 := ⟨_, rfl⟩
              rw [← hv] at hpl hlb
              obtain ⟨H2, hH2⟩ : ∃ H2, H2 = tw_set H1 36 (iC 8 f') := ⟨_, rfl⟩
              rw [← hH2] at hlb
              have g272 : H2.2.2 27 = some (mC fl (nI nt) (nI nw) hk lw (nI s0) (-9) a1 a2 a3 (nI ns) (nI nr) tr) := by rw [hH2, tw_sg, if_neg (by decide), o1 27 (by decide)]; exact mZ.1
              have g271 : H1.2.2 27 = some (mC fl (nI nt) (nI nw) hk lw (nI s0) (-9) a1 a2 a3 (nI ns) (nI nr) tr) := by rw [o1 27 (by decide)]; exact mZ.1
              have erf := m_refused g272 v
              have hX1 := hX.s1 hk lw 0 s0
              have hS1 := hS.lo (a := 1) (by omega) (by omega) (xC (nI nw) hk lw (nI s0) 0)
              have hM1 := hM.lo (a := 1) (by omega) (xC (nI nw) hk lw (nI s0) 0)
              rw [← hH1] at hX1 hS1 hM1
              have hX2 := hX1.hi (a := 36) (by omega) (iC 8 f')
              have hS2 := hS1.lo (a := 36) (by omega) (by omega) (iC 8 f')
              have hM2 := hM1.scr (h' := tw_set H1 36 (iC 8 f')) (fun a ha => by rw [tw_sg, if_neg ha]) (f := f') (by rw [tw_sg, if_pos rfl])
              rw [← hH2] at hX2 hS2 hM2
              refine ⟨.int v, H1, _, ?_, ?_, ⟨nw, nt, s0, ns, nr, hk, lw, 0, tr, tfx, tfm, sw, sh, sa, f34, f35, r1, r2, r3, ft, fo, kd, wt, sz, ln, sf, g, hX2.hi (a := 27) (by omega) _, hS2.lo (by omega) (by omega) _, hM2.s27 a1 a2 a3 hk lw 0 tr s0 ns nr (Nat.le_refl _), hR⟩, by rw [tw_sg1, hH2, tw_sg1, hH1, tw_sg1]; omega, by rw [tw_sg2, hH2, tw_sg2, hH1, tw_sg2]; omega⟩
              · simp [s72_0, s72_1, s72_2, s72_5, s72_6, s72_7, s72_10, s72_13, s72_14, s72_15, s72_16, s72_19, s72_22, s72_24, s72_27, s72_29, s72_31, s72_34, s72_36, s72_37, s72_38, s72_41, s72_44, s72_46, s72_47, s72_48, s72_49, s72_52, s72_52n, s72_54, s72_54n, s72_56, s72_57, s72_58, s72_59, s72_61, s72_62, s72_62n, s72_65, s72_65m, s72_67, s72_67n, s72_69, s72_69n, s72_72, s72_74, s72_77, s72_78, s72_80, s72_83, s72_84, s72_85, s72_85n, s72_87, s72_88, s72_90, s72_90n, s72_93, s72_95, s72_97, s72_100, s72_102, s72_103, s72_103n, s72_105, s72_106, s72_108, s72_108n, s72_111, s72_113, s72_115, s72_117, s72_120, s72_121, s72_121n, s72_123, s72_124, s72_126, s72_126n, s72_129, s72_132, s72_134, s72_136, s72_137, tw_sf, xX, tw_fit, ← hH1, xco g1, es, el, tw_bi_0, q1.2, x_hasNoTown g1, wne, er, nI_2, efc, s73_0, s73_1, hrf, wx, s76_0, s76_1, s76_4, s76_6, s76_7, s76_9, s76_10, s76_12, s76_13, tw_gf, g1, hpl]
              · have e2 := emr 0
                rw [← hH1] at e2
                rw [mstart, e2, wm]
                simp [s152_214, s152_215, s152_216, s152_218, s152_220, s152_223, s152_226, mco g271, mco g272, hlb, erf]
            · rw [if_neg u2] at wm
              refine two_fl hX hS hM hR 0 a1 a2 a3 (.int (-100 - wg)) ?_ ?_
              · simp [s72_0, s72_1, s72_2, s72_5, s72_6, s72_7, s72_10, s72_13, s72_14, s72_15, s72_16, s72_19, s72_22, s72_24, s72_27, s72_29, s72_31, s72_34, s72_36, s72_37, s72_38, s72_41, s72_44, s72_46, s72_47, s72_48, s72_49, s72_52, s72_52n, s72_54, s72_54n, s72_56, s72_57, s72_58, s72_59, s72_61, s72_62, s72_62n, s72_65, s72_65m, s72_67, s72_67n, s72_69, s72_69n, s72_72, s72_74, s72_77, s72_78, s72_80, s72_83, s72_84, s72_85, s72_85n, s72_87, s72_88, s72_90, s72_90n, s72_93, s72_95, s72_97, s72_100, s72_102, s72_103, s72_103n, s72_105, s72_106, s72_108, s72_108n, s72_111, s72_113, s72_115, s72_117, s72_120, s72_121, s72_121n, s72_123, s72_124, s72_126, s72_126n, s72_129, s72_132, s72_134, s72_136, s72_137, tw_sf, xX, tw_fit, ← hH1, xco g1, es, el, tw_bi_0, q1.2, x_hasNoTown g1, wne, er, nI_2, efc, s73_0, s73_1, hrf, wx, u2]
              · have e2 := emr 0
                rw [← hH1] at e2 ⊢
                rw [mstart, e2, wm]
          · simp only [u1, if_false] at emr
            refine two_fl hX hS hM hR 0 a1 a2 a3 (.int (rfS (fun x => sf (b + x)) nw 0 m)) ?_ ?_
            · simp [s72_0, s72_1, s72_2, s72_5, s72_6, s72_7, s72_10, s72_13, s72_14, s72_15, s72_16, s72_19, s72_22, s72_24, s72_27, s72_29, s72_31, s72_34, s72_36, s72_37, s72_38, s72_41, s72_44, s72_46, s72_47, s72_48, s72_49, s72_52, s72_52n, s72_54, s72_54n, s72_56, s72_57, s72_58, s72_59, s72_61, s72_62, s72_62n, s72_65, s72_65m, s72_67, s72_67n, s72_69, s72_69n, s72_72, s72_74, s72_77, s72_78, s72_80, s72_83, s72_84, s72_85, s72_85n, s72_87, s72_88, s72_90, s72_90n, s72_93, s72_95, s72_97, s72_100, s72_102, s72_103, s72_103n, s72_105, s72_106, s72_108, s72_108n, s72_111, s72_113, s72_115, s72_117, s72_120, s72_121, s72_121n, s72_123, s72_124, s72_126, s72_126n, s72_129, s72_132, s72_134, s72_136, s72_137, tw_sf, xX, tw_fit, ← hH1, xco g1, es, el, tw_bi_0, q1.2, x_hasNoTown g1, wne, er, nI_2, efc, s73_0, s73_1, hrf, u1]
            · have e2 := emr 0
              rw [← hH1] at e2 ⊢
              rw [mstart, e2]
        · exact bad 2 (by decide) (by decide) hfc
        · exact bad 3 (by decide) (by decide) hfc
        · exact bad 4 (by decide) (by decide) hfc
    · refine two_fl hX hS hM hR 0 a1 a2 a3 (.int (-2)) ?_ ?_
      · by_cases q3 : ¬ lane < 0 ∧ lane < 3
        · simp only [decide_eq_true q3] at el
          by_cases q4 : n < 0
          · simp [s72_0, s72_1, s72_2, s72_5, s72_6, s72_7, s72_10, s72_13, s72_14, s72_15, s72_16, s72_19, s72_22, s72_24, s72_27, s72_29, s72_31, s72_34, s72_36, s72_37, s72_38, s72_41, s72_44, s72_46, s72_47, s72_48, s72_49, s72_52, s72_52n, s72_54, s72_54n, s72_56, s72_57, s72_58, s72_59, s72_61, s72_62, s72_62n, s72_65, s72_65m, s72_67, s72_67n, s72_69, s72_69n, s72_72, s72_74, s72_77, s72_78, s72_80, s72_83, s72_84, s72_85, s72_85n, s72_87, s72_88, s72_90, s72_90n, s72_93, s72_95, s72_97, s72_100, s72_102, s72_103, s72_103n, s72_105, s72_106, s72_108, s72_108n, s72_111, s72_113, s72_115, s72_117, s72_120, s72_121, s72_121n, s72_123, s72_124, s72_126, s72_126n, s72_129, s72_132, s72_134, s72_136, s72_137, tw_sf, xX, tw_fit, ← hH1, xco g1, es, el, tw_bi_0, q4]
          · have q5 : 30 < n := by
              by_cases z : 30 < n
              · exact z
              · exact absurd ⟨q3, q4, z⟩ q1
            simp [s72_0, s72_1, s72_2, s72_5, s72_6, s72_7, s72_10, s72_13, s72_14, s72_15, s72_16, s72_19, s72_22, s72_24, s72_27, s72_29, s72_31, s72_34, s72_36, s72_37, s72_38, s72_41, s72_44, s72_46, s72_47, s72_48, s72_49, s72_52, s72_52n, s72_54, s72_54n, s72_56, s72_57, s72_58, s72_59, s72_61, s72_62, s72_62n, s72_65, s72_65m, s72_67, s72_67n, s72_69, s72_69n, s72_72, s72_74, s72_77, s72_78, s72_80, s72_83, s72_84, s72_85, s72_85n, s72_87, s72_88, s72_90, s72_90n, s72_93, s72_95, s72_97, s72_100, s72_102, s72_103, s72_103n, s72_105, s72_106, s72_108, s72_108n, s72_111, s72_113, s72_115, s72_117, s72_120, s72_121, s72_121n, s72_123, s72_124, s72_126, s72_126n, s72_129, s72_132, s72_134, s72_136, s72_137, tw_sf, xX, tw_fit, ← hH1, xco g1, es, el, tw_bi_0, q4, q5]
        · simp only [decide_eq_false q3] at el
          simp [s72_0, s72_1, s72_2, s72_5, s72_6, s72_7, s72_10, s72_13, s72_14, s72_15, s72_16, s72_19, s72_22, s72_24, s72_27, s72_29, s72_31, s72_34, s72_36, s72_37, s72_38, s72_41, s72_44, s72_46, s72_47, s72_48, s72_49, s72_52, s72_52n, s72_54, s72_54n, s72_56, s72_57, s72_58, s72_59, s72_61, s72_62, s72_62n, s72_65, s72_65m, s72_67, s72_67n, s72_69, s72_69n, s72_72, s72_74, s72_77, s72_78, s72_80, s72_83, s72_84, s72_85, s72_85n, s72_87, s72_88, s72_90, s72_90n, s72_93, s72_95, s72_97, s72_100, s72_102, s72_103, s72_103n, s72_105, s72_106, s72_108, s72_108n, s72_111, s72_113, s72_115, s72_117, s72_120, s72_121, s72_121n, s72_123, s72_124, s72_126, s72_126n, s72_129, s72_132, s72_134, s72_136, s72_137, tw_sf, xX, tw_fit, ← hH1, xco g1, es, el, tw_bi_0]
      · by_cases q3 : ¬ lane < 0 ∧ lane < 3
        · simp only [decide_eq_true q3] at em
          simp only [decide_eq_false (fun z => q1 ⟨q3, z⟩)] at e30
          simp [s152_0, s152_0, s152_1, s152_4, s152_7, s152_8, s152_9, s152_12, s152_13, s152_14, s152_15, s152_16, s152_19, s152_22, s152_25, s152_27, s152_28, s152_29, s152_32, s152_35, s152_38, s152_39, s152_41, s152_44, s152_45, s152_46, s152_49, s152_52, s152_53, s152_55, s152_58, s152_59, s152_60, s152_61, s152_62, s152_63, s152_66, s152_68, s152_69, s152_70, s152_73, s152_75, s152_77, s152_80, s152_82, s152_83, s152_85, s152_86, s152_87, s152_88, s152_89, s152_91, s152_92, s152_96, s152_98, s152_101, s152_102, s152_105, s152_107, s152_108, s152_110, s152_111, s152_112, s152_113, s152_116, s152_119, s152_120, s152_122, s152_125, s152_126, s152_127, s152_128, s152_131, s152_133, s152_134, s152_136, s152_137, s152_138, s152_139, s152_140, s152_141, s152_144, s152_147, s152_148, s152_149, s152_152, s152_153, s152_156, s152_160, s152_164, s152_166, s152_169, s152_170, s152_173, s152_175, s152_176, s152_178, s152_179, s152_180, s152_181, s152_182, s152_185, s152_187, s152_188, s152_190, s152_191, s152_192, s152_193, s152_194, s152_195, s152_198, s152_199, s152_201, s152_203, s152_204, s152_207, s152_208, s152_211, s152_215, s152_216, s152_218, s152_220, s152_223, s152_226, en, em, e30, tw_bi_0, mco (gM 0), m_refused (gM 0)]
        · simp only [decide_eq_false q3] at em
          simp [s152_0, s152_0, s152_1, s152_4, s152_7, s152_8, s152_9, s152_12, s152_13, s152_14, s152_15, s152_16, s152_19, s152_22, s152_25, s152_27, s152_28, s152_29, s152_32, s152_35, s152_38, s152_39, s152_41, s152_44, s152_45, s152_46, s152_49, s152_52, s152_53, s152_55, s152_58, s152_59, s152_60, s152_61, s152_62, s152_63, s152_66, s152_68, s152_69, s152_70, s152_73, s152_75, s152_77, s152_80, s152_82, s152_83, s152_85, s152_86, s152_87, s152_88, s152_89, s152_91, s152_92, s152_96, s152_98, s152_101, s152_102, s152_105, s152_107, s152_108, s152_110, s152_111, s152_112, s152_113, s152_116, s152_119, s152_120, s152_122, s152_125, s152_126, s152_127, s152_128, s152_131, s152_133, s152_134, s152_136, s152_137, s152_138, s152_139, s152_140, s152_141, s152_144, s152_147, s152_148, s152_149, s152_152, s152_153, s152_156, s152_160, s152_164, s152_166, s152_169, s152_170, s152_173, s152_175, s152_176, s152_178, s152_179, s152_180, s152_181, s152_182, s152_185, s152_187, s152_188, s152_190, s152_191, s152_192, s152_193, s152_194, s152_195, s152_198, s152_199, s152_201, s152_203, s152_204, s152_207, s152_208, s152_211, s152_215, s152_216, s152_218, s152_220, s152_223, s152_226, en, em, tw_bi_0, mco (gM 0), m_refused (gM 0)]
  · rw [decide_eq_false q] at es
    simp only [decide_eq_false q] at en
    refine two_fl hX hS hM hR 0 a1 a2 a3 (.int (-1)) ?_ ?_
    · simp [s72_0, s72_1, s72_2, s72_5, s72_6, s72_7, s72_10, s72_13, s72_14, s72_15, s72_16, s72_19, s72_22, s72_24, s72_27, s72_29, s72_31, s72_34, s72_36, s72_37, s72_38, s72_41, s72_44, s72_46, s72_47, s72_48, s72_49, s72_52, s72_52n, s72_54, s72_54n, s72_56, s72_57, s72_58, s72_59, s72_61, s72_62, s72_62n, s72_65, s72_65m, s72_67, s72_67n, s72_69, s72_69n, s72_72, s72_74, s72_77, s72_78, s72_80, s72_83, s72_84, s72_85, s72_85n, s72_87, s72_88, s72_90, s72_90n, s72_93, s72_95, s72_97, s72_100, s72_102, s72_103, s72_103n, s72_105, s72_106, s72_108, s72_108n, s72_111, s72_113, s72_115, s72_117, s72_120, s72_121, s72_121n, s72_123, s72_124, s72_126, s72_126n, s72_129, s72_132, s72_134, s72_136, s72_137, tw_sf, xX, tw_fit, ← hH1, xco g1, es, tw_bi_0]
    · simp [s152_0, s152_0, s152_1, s152_4, s152_7, s152_8, s152_9, s152_12, s152_13, s152_14, s152_15, s152_16, s152_19, s152_22, s152_25, s152_27, s152_28, s152_29, s152_32, s152_35, s152_38, s152_39, s152_41, s152_44, s152_45, s152_46, s152_49, s152_52, s152_53, s152_55, s152_58, s152_59, s152_60, s152_61, s152_62, s152_63, s152_66, s152_68, s152_69, s152_70, s152_73, s152_75, s152_77, s152_80, s152_82, s152_83, s152_85, s152_86, s152_87, s152_88, s152_89, s152_91, s152_92, s152_96, s152_98, s152_101, s152_102, s152_105, s152_107, s152_108, s152_110, s152_111, s152_112, s152_113, s152_116, s152_119, s152_120, s152_122, s152_125, s152_126, s152_127, s152_128, s152_131, s152_133, s152_134, s152_136, s152_137, s152_138, s152_139, s152_140, s152_141, s152_144, s152_147, s152_148, s152_149, s152_152, s152_153, s152_156, s152_160, s152_164, s152_166, s152_169, s152_170, s152_173, s152_175, s152_176, s152_178, s152_179, s152_180, s152_181, s152_182, s152_185, s152_187, s152_188, s152_190, s152_191, s152_192, s152_193, s152_194, s152_195, s152_198, s152_199, s152_201, s152_203, s152_204, s152_207, s152_208, s152_211, s152_215, s152_216, s152_218, s152_220, s152_223, s152_226, en, tw_bi_0, mco (gM 0), m_refused (gM 0)]
end N1
