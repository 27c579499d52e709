/-! what works tell -/
section J1
variable {h : tw_H} {a c : Nat} {nu wt t : Int32}
theorem x_leave (hT : h.2.2 7 = some (oC 8 [.int t])) (n : Int32) : tw_b 97 0 [.ref 7, .int n] [] h = some (none, tw_set h 7 (oC 8 [.int (31 * t + n)])) := by
  simp [s97_0, s97_1, s97_3, s97_4, s97_7, s97_8, s97_9, s97_10, s97_13, tw_gf, tw_sf, hT, tw_fit]
theorem x_co7 (hT : h.2.2 7 = some (oC 8 [.int t])) : tw_co h 7 = some 8 := by simp [tw_co, hT]
theorem x_plain (hT : h.2.2 7 = some (oC 8 [.int t])) (ha : h.2.2 a = some (oC c [.int nu, .int wt])) (h0 : a ≠ 0) (h7 : a ≠ 7) (hc : c = 9 ∨ c = 0 ∨ c = 4) : tw_b 99 0 [.ref a, .ref 7] [] h = some (some (.int wt), tw_set h 7 (oC 8 [.int (31 * t + 1)])) := by
  have hc' : c = 0 ∨ c = 4 ∨ c = 9 := by omega
  simp [s99_0, s99_0n, s99_1, s99_2, s99_5, s99_6, s99_9, x_co7 hT, x_leave hT, tw_gf, tw_sg, h7, h0, ha, hc']
theorem x_tellW (hT : h.2.2 7 = some (oC 8 [.int t])) (ha : h.2.2 a = some (oC c [.int nu, .int wt])) (h0 : a ≠ 0) (h7 : a ≠ 7) (hc : c = 9 ∨ c = 0 ∨ c = 4) : tw_b 100 0 [.ref a, .ref 7] [] h = some (some (.int wt), tw_set h 7 (oC 8 [.int (31 * t + 1)])) := by
  have hp := x_plain hT ha h0 h7 hc
  have hco : tw_co h a = some c := by simp [tw_co, ha, h0]
  rcases hc with rfl | rfl | rfl <;> simp [s100_0, s100_1, s100_1n, s100_2c9, s100_2c9n, s100_2c0, s100_2c0n, s100_2c4, s100_2c4n, s100_5, hco, hp]
theorem x_tellB (hT : h.2.2 7 = some (oC 8 [.int t])) (ha : h.2.2 a = some (oC c [.int nu, .int wt])) (h0 : a ≠ 0) (h7 : a ≠ 7) (hc : c = 0 ∨ c = 4) : tw_b 96 0 [.ref a, .ref 7] [] h = some (some (.int (wt + 100)), tw_set h 7 (oC 8 [.int (31 * (31 * t + 2) + 1)])) := by
  obtain ⟨H1, hH1⟩ : ∃ H1, H1 = tw_set h 7 (oC 8 [.int (31 * t + 2)]) := ⟨_, rfl⟩
  have hT1 : H1.2.2 7 = some (oC 8 [.int (31 * t + 2)]) := by rw [hH1, tw_sg, if_pos rfl]
  have ha1 : H1.2.2 a = some (oC c [.int nu, .int wt]) := by rw [hH1, tw_sg, if_neg h7]; exact ha
  have hco : tw_co H1 a = some c := by simp [tw_co, ha1, h0]
  have h12 : c < 12 := by omega
  have hl := x_leave hT 2
  rw [← hH1] at hl
  have hw := x_tellW hT1 ha1 h0 h7 (by omega)
  rw [hH1, tw_ss, ← hH1] at hw
  simp only [s96_0, s96_1, s96_2 _ _ _ _ (x_co7 hT), hl, Option.bind_some, Option.bind_none, Option.toList_some, Option.toList_none, List.cons_append, List.nil_append, s96_5, s96_6, s96_7 _ _ _ _ hco h12, hw, s96_10, s96_12, s96_13]
theorem x_tellS (hT : h.2.2 7 = some (oC 8 [.int t])) (ha : h.2.2 a = some (oC 4 [.int nu, .int wt])) (h0 : a ≠ 0) (h7 : a ≠ 7) : tw_b 98 0 [.ref a, .ref 7] [] h = some (some (.int (wt + 100 + wt)), tw_set h 7 (oC 8 [.int (31 * (31 * (31 * (31 * t + 3) + 2) + 1) + 1)])) := by
  obtain ⟨H1, hH1⟩ : ∃ H1, H1 = tw_set h 7 (oC 8 [.int (31 * t + 3)]) := ⟨_, rfl⟩
  have hT1 : H1.2.2 7 = some (oC 8 [.int (31 * t + 3)]) := by rw [hH1, tw_sg, if_pos rfl]
  have ha1 : H1.2.2 a = some (oC 4 [.int nu, .int wt]) := by rw [hH1, tw_sg, if_neg h7]; exact ha
  have hco : tw_co H1 a = some 4 := by simp [tw_co, ha1, h0]
  have h12 : (4 : Nat) < 12 := by omega
  have hl := x_leave hT 3
  rw [← hH1] at hl
  have hw := x_tellB hT1 ha1 h0 h7 (Or.inr rfl)
  obtain ⟨H2, hH2⟩ : ∃ H2, H2 = tw_set H1 7 (oC 8 [.int (31 * (31 * (31 * t + 3) + 2) + 1)]) := ⟨_, rfl⟩
  rw [← hH2] at hw
  have hT2 : H2.2.2 7 = some (oC 8 [.int (31 * (31 * (31 * t + 3) + 2) + 1)]) := by rw [hH2, tw_sg, if_pos rfl]
  have ha2 : H2.2.2 a = some (oC 4 [.int nu, .int wt]) := by rw [hH2, tw_sg, if_neg h7]; exact ha1
  have hco2 : tw_co H2 a = some 4 := by simp [tw_co, ha2, h0]
  have hp := x_plain hT2 ha2 h0 h7 (Or.inr (Or.inr rfl))
  have e2 : ∀ X, tw_set H2 7 X = tw_set h 7 X := fun X => by rw [hH2, hH1, tw_ss, tw_ss]
  rw [e2] at hp
  simp only [s98_0, s98_1, s98_2 _ _ _ _ (x_co7 hT), hl, Option.bind_some, Option.bind_none, Option.toList_some, Option.toList_none, List.cons_append, List.nil_append, s98_5, s98_6, s98_7 _ _ _ _ hco h12, hw, s98_10, s98_11, s98_12 _ _ _ _ _ hco2, hp, s98_15, s98_16]
theorem m_traced {h : tw_H} {fl tc wc hk lw st hg ra rt rw ns nr tr : Int32} (hM : h.2.2 27 = some (mC fl tc wc hk lw st hg ra rt rw ns nr tr)) (n : Int32) : tw_b 172 0 [.ref 27, .int n] [] h = some (none, tw_set h 27 (mC fl tc wc hk lw st hg ra rt rw ns nr (31 * tr + n))) := by
  simp [s172_0, s172_1, s172_3, s172_4, s172_7, s172_8, s172_9, s172_10, s172_13, tw_gf, tw_sf, hM, tw_fit]
end J1
section J2
variable {h : tw_H} {nw nt s0 ns nr : Nat} {hk lw fl tr : Int32} {tfx tfm sw sh sa f34 f35 rw rh ra ft fo kd wt sz ln sf : Nat → Int32} {g : Nat → Option Nat}
theorem XI.s7 (H : XI h nw nt s0 ns nr hk lw fl tr tfx sw sh sa rw rh ra ft fo kd wt g) (tr' : Int32) : XI (tw_set h 7 (oC 8 [.int tr'])) nw nt s0 ns nr hk lw fl tr' tfx sw sh sa rw rh ra ft fo kd wt g := by
  obtain ⟨x1, x2, x3, x4, x5, ⟨oa, ob, x6⟩, ⟨lf, x7⟩, x8, x9, x10, ti, wo, pl, fr, si, co, A, B, C, x11⟩ := H
  refine ⟨x1, by rw [tw_sg, if_neg (by decide)]; exact x2, x3.set (by omega), x4.set (by omega), x5.set (by decide), ⟨oa, ob, x6.set (by decide)⟩, ⟨lf, x7.set (by decide)⟩, by rw [tw_sg, if_neg (by decide)]; exact x8, x9.congr (Nat.le_refl _) (fun a h1 _ => by rw [tw_sg, if_neg (by omega)]), by rw [tw_sg, if_pos rfl], ti, wo, pl, fr, si, co, A, B, C, ?_⟩
  rw [tw_sg, if_neg (by decide), tw_sg, if_neg (by decide), tw_sg, if_neg (by decide), tw_sg, if_neg (by decide)]
  exact x11
/-- only the trace changes -/
theorem Inv.trc (hX : XI h nw nt s0 ns nr hk lw fl tr tfx sw sh sa rw rh ra ft fo kd wt g) (hS : SI h sz ln sf) (hM : MI h nw nt s0 ns nr hk lw fl tr tfm f34 f35 rw rh ra kd wt sz ln sf) (hR : RI nw nt s0 ns nr hk lw tfx tfm sh sa f34 f35 ft fo kd wt) (tr' b1 b2 b3 : Int32) : Inv (tw_set (tw_set h 7 (oC 8 [.int tr'])) 27 (mC fl (nI nt) (nI nw) hk lw (nI s0) (-9) b1 b2 b3 (nI ns) (nI nr) tr')) :=
  ⟨nw, nt, s0, ns, nr, hk, lw, fl, tr', tfx, tfm, sw, sh, sa, f34, f35, rw, rh, ra, ft, fo, kd, wt, sz, ln, sf, g, (hX.s7 tr').hi (by omega) _, (hS.lo (by omega) (by omega) _).lo (by omega) (by omega) _, (hM.lo (a := 7) (by omega) (oC 8 [.int tr'])).s27 b1 b2 b3 hk lw fl tr' s0 ns nr (Nat.le_refl _), hR⟩
/-- only the fault changes -/
theorem Inv.flt (hX : XI h nw nt s0 ns nr hk lw fl tr tfx sw sh sa rw rh ra ft fo kd wt g) (hS : SI h sz ln sf) (hM : MI h nw nt s0 ns nr hk lw fl tr tfm f34 f35 rw rh ra kd wt sz ln sf) (hR : RI nw nt s0 ns nr hk lw tfx tfm sh sa f34 f35 ft fo kd wt) (fl' b1 b2 b3 : Int32) : Inv (tw_set (tw_set h 1 (xC (nI nw) hk lw (nI s0) fl')) 27 (mC fl' (nI nt) (nI nw) hk lw (nI s0) (-9) b1 b2 b3 (nI ns) (nI nr) tr)) :=
  ⟨nw, nt, s0, ns, nr, hk, lw, fl', tr, tfx, tfm, sw, sh, sa, f34, f35, rw, rh, ra, ft, fo, kd, wt, sz, ln, sf, g, (hX.s1 hk lw fl' s0).hi (by omega) _, (hS.lo (by omega) (by omega) _).lo (by omega) (by omega) _, (hM.lo (a := 1) (by omega) (xC (nI nw) hk lw (nI s0) fl')).s27 b1 b2 b3 hk lw fl' tr s0 ns nr (Nat.le_refl _), hR⟩
end J2
section J3
variable {h : tw_H}
theorem saint_eq (w : Int32) : w + 100 + w = 2 * w + 100 := by
  rw [show (2 : Int32) = 1 + 1 from rfl, Int32.add_mul, Int32.one_mul, Int32.add_assoc, Int32.add_comm 100 w, ← Int32.add_assoc]
theorem c_tell (I : Inv h) (k : Int32) : Two h 95 [.ref 1, .int k, tw_un] 171 [.ref 27, .int k, tw_un, tw_un] := by
  obtain ⟨nw, nt, s0, ns, nr, hk, lw, fl, tr, tfx, tfm, sw, sh, sa, f34, f35, r1, r2, r3, ft, fo, kd, wt, sz, ln, sf, g, hX, hS, hM, hR⟩ := id I
  obtain ⟨x44, xX, xS, xR, xK, ⟨oa, ob, xO⟩, ⟨lf, xL⟩, xW, xWK, xT, xTx⟩ := id hX
  obtain ⟨⟨a1, a2, a3, mZ⟩, mR, ⟨hd, mH⟩, ⟨mf, mL⟩, mA⟩ := id hM
  obtain ⟨r8, r6, r0, rs, rW, rT, rN, rF⟩ := id hR
  have ew := x_workOf xX xW k
  have em := m_noWork mZ.1 k
  by_cases qk : ¬ k < 0 ∧ k < nI nw
  · obtain ⟨j, hj, rfl⟩ := xWK.isref r8 qk
    obtain ⟨a, wa, a43, ah, ac, ak⟩ := xWK.ref r8 hj
    rw [wa] at ew
    have ev := tw_vi_n (show j < 8 by omega) (by decide)
    have ec := nI_clamp (show j < 2 ^ 31 by omega)
    have a0 : a ≠ 0 := by omega
    have a7 : a ≠ 7 := by omega
    have gM : ∀ tr', (tw_set h 7 (oC 8 [.int tr'])).2.2 27 = some (mC fl (nI nt) (nI nw) hk lw (nI s0) (-9) a1 a2 a3 (nI ns) (nI nr) tr) := fun tr' => by rw [tw_sg, if_neg (by decide)]; exact mZ.1
    rcases ak with z | z | z
    · rw [z] at ac
      have hco : tw_co h a = some 9 := by simp [tw_co, ac, a0, clsK]
      have et := x_tellW xT ac a0 a7 (Or.inl rfl)
      refine ⟨.int (wt j), tw_set h 7 (oC 8 [.int (31 * tr + 1)]), _, ?_, ?_, Inv.trc hX hS hM hR (31 * tr + 1) a1 a2 a3, by rw [tw_sg1, tw_sg1]; omega, by rw [tw_sg2, tw_sg2]; omega⟩
      · simp [s95_0, s95_1, s95_2, s95_5, s95_5n, s95_6, s95_6n, s95_7, s95_7n, s95_10, s95_11, s95_14, s95_14n, s95_15, s95_16, s95_19c9, s95_19c0, s95_19c4, s95_22, xco xX, ew, tw_gf, xX, hco, et]
      · have em1 := m_noWork (gM (31 * tr + 1)) (nI j)
        rw [decide_eq_true qk] at em1
        simp [s171_0, s171_1, s171_2, s171_5, s171_8, s171_9, s171_10, s171_11, s171_14, s171_15, s171_16, s171_17, s171_18, s171_19, s171_22, s171_23, s171_24, s171_27, s171_28, s171_31, s171_32, s171_33, s171_36, s171_37, s171_38, s171_41, s171_42, s171_43, s171_46, s171_47, s171_48, s171_51, s171_52, s171_55, s171_56, s171_57, s171_58, s171_59, s171_62, s171_63, s171_66, s171_67, s171_68, s171_71, s171_72, s171_74, s171_75, s171_78, s171_79, s171_80, s171_81, s171_83, s171_84, mco (gM (31 * tr + 1)), em1, tw_bi_0, tw_gf, tw_ia, tw_sg, mZ.1, mZ.2.2.1, mZ.2.2.2.1, ev, ec, z, m_traced (gM (31 * tr + 1))]
    · rw [z] at ac
      have hco : tw_co h a = some 0 := by simp [tw_co, ac, a0, clsK]
      have et := x_tellB xT ac a0 a7 (Or.inl rfl)
      refine ⟨.int (wt j + 100), tw_set h 7 (oC 8 [.int (31 * (31 * tr + 2) + 1)]), _, ?_, ?_, Inv.trc hX hS hM hR (31 * (31 * tr + 2) + 1) a1 a2 a3, by rw [tw_sg1, tw_sg1]; omega, by rw [tw_sg2, tw_sg2]; omega⟩
      · simp [s95_0, s95_1, s95_2, s95_5, s95_5n, s95_6, s95_6n, s95_7, s95_7n, s95_10, s95_11, s95_14, s95_14n, s95_15, s95_16, s95_19c9, s95_19c0, s95_19c4, s95_22, xco xX, ew, tw_gf, xX, hco, et]
      · obtain ⟨H1, hH1⟩ : ∃ H1, H1 = tw_set h 7 (oC 8 [.int (31 * (31 * tr + 2) + 1)]) := ⟨_, rfl⟩
        have g27 := gM (31 * (31 * tr + 2) + 1)
        rw [← hH1] at g27 ⊢
        have g29 : H1.2.2 29 = some (iC 8 kd) := by rw [hH1, tw_sg, if_neg (by decide)]; exact mZ.2.2.1
        have g30 : H1.2.2 30 = some (iC 8 wt) := by rw [hH1, tw_sg, if_neg (by decide)]; exact mZ.2.2.2.1
        have em1 := m_noWork g27 (nI j)
        rw [decide_eq_true qk] at em1
        have t2 := m_traced g27 2
        have gM2 : (tw_set H1 27 (mC fl (nI nt) (nI nw) hk lw (nI s0) (-9) a1 a2 a3 (nI ns) (nI nr) (31 * tr + 2))).2.2 27 = some (mC fl (nI nt) (nI nw) hk lw (nI s0) (-9) a1 a2 a3 (nI ns) (nI nr) (31 * tr + 2)) := by rw [tw_sg, if_pos rfl]
        have t1 := m_traced gM2 1
        rw [tw_ss] at t1
        simp [s171_0, s171_1, s171_2, s171_5, s171_8, s171_9, s171_10, s171_11, s171_14, s171_15, s171_16, s171_17, s171_18, s171_19, s171_22, s171_23, s171_24, s171_27, s171_28, s171_31, s171_32, s171_33, s171_36, s171_37, s171_38, s171_41, s171_42, s171_43, s171_46, s171_47, s171_48, s171_51, s171_52, s171_55, s171_56, s171_57, s171_58, s171_59, s171_62, s171_63, s171_66, s171_67, s171_68, s171_71, s171_72, s171_74, s171_75, s171_78, s171_79, s171_80, s171_81, s171_83, s171_84, mco g27, mco gM2, em1, tw_bi_0, tw_gf, tw_ia, tw_sg, g27, g29, g30, ev, ec, z, t2, t1]
    · rw [z] at ac
      have hco : tw_co h a = some 4 := by simp [tw_co, ac, a0, clsK]
      have et := x_tellS xT ac a0 a7
      refine ⟨.int (wt j + 100 + wt j), tw_set h 7 (oC 8 [.int (31 * (31 * (31 * (31 * tr + 3) + 2) + 1) + 1)]), _, ?_, ?_, Inv.trc hX hS hM hR (31 * (31 * (31 * (31 * tr + 3) + 2) + 1) + 1) a1 a2 a3, by rw [tw_sg1, tw_sg1]; omega, by rw [tw_sg2, tw_sg2]; omega⟩
      · simp [s95_0, s95_1, s95_2, s95_5, s95_5n, s95_6, s95_6n, s95_7, s95_7n, s95_10, s95_11, s95_14, s95_14n, s95_15, s95_16, s95_19c9, s95_19c0, s95_19c4, s95_22, xco xX, ew, tw_gf, xX, hco, et]
      · obtain ⟨H1, hH1⟩ : ∃ H1, H1 = tw_set h 7 (oC 8 [.int (31 * (31 * (31 * (31 * tr + 3) + 2) + 1) + 1)]) := ⟨_, rfl⟩
        have g27 := gM (31 * (31 * (31 * (31 * tr + 3) + 2) + 1) + 1)
        rw [← hH1] at g27 ⊢
        have g29 : H1.2.2 29 = some (iC 8 kd) := by rw [hH1, tw_sg, if_neg (by decide)]; exact mZ.2.2.1
        have g30 : H1.2.2 30 = some (iC 8 wt) := by rw [hH1, tw_sg, if_neg (by decide)]; exact mZ.2.2.2.1
        have em1 := m_noWork g27 (nI j)
        rw [decide_eq_true qk] at em1
        have gM2 : ∀ x, (tw_set H1 27 (mC fl (nI nt) (nI nw) hk lw (nI s0) (-9) a1 a2 a3 (nI ns) (nI nr) x)).2.2 27 = some (mC fl (nI nt) (nI nw) hk lw (nI s0) (-9) a1 a2 a3 (nI ns) (nI nr) x) := fun x => by rw [tw_sg, if_pos rfl]
        have t3 := m_traced g27 3
        have tt : ∀ x n, tw_b 172 0 [.ref 27, .int n] [] (tw_set H1 27 (mC fl (nI nt) (nI nw) hk lw (nI s0) (-9) a1 a2 a3 (nI ns) (nI nr) x)) = some (none, tw_set H1 27 (mC fl (nI nt) (nI nw) hk lw (nI s0) (-9) a1 a2 a3 (nI ns) (nI nr) (31 * x + n))) := fun x n => by
          have := m_traced (gM2 x) n
          rw [tw_ss] at this
          exact this
        have cc : ∀ x, tw_co (tw_set H1 27 (mC fl (nI nt) (nI nw) hk lw (nI s0) (-9) a1 a2 a3 (nI ns) (nI nr) x)) 27 = some 11 := fun x => mco (gM2 x)
        simp [s171_0, s171_1, s171_2, s171_5, s171_8, s171_9, s171_10, s171_11, s171_14, s171_15, s171_16, s171_17, s171_18, s171_19, s171_22, s171_23, s171_24, s171_27, s171_28, s171_31, s171_32, s171_33, s171_36, s171_37, s171_38, s171_41, s171_42, s171_43, s171_46, s171_47, s171_48, s171_51, s171_52, s171_55, s171_56, s171_57, s171_58, s171_59, s171_62, s171_63, s171_66, s171_67, s171_68, s171_71, s171_72, s171_74, s171_75, s171_78, s171_79, s171_80, s171_81, s171_83, s171_84, mco g27, cc, em1, tw_bi_0, tw_gf, tw_ia, tw_sg, g27, g29, g30, ev, ec, z, t3, tt, saint_eq]
  · rw [(xWK.null r8 k).mpr qk] at ew
    rw [decide_eq_false qk] at em
    refine ⟨.int (-1), h, h, ?_, ?_, I, by omega, by omega⟩
    · simp [s95_0, s95_1, s95_2, s95_5, s95_5n, s95_6, s95_6n, s95_7, s95_7n, s95_10, s95_11, s95_14, s95_14n, s95_15, s95_16, s95_19c9, s95_19c0, s95_19c4, s95_22, xco xX, ew]
    · simp [s171_0, s171_1, s171_2, s171_5, s171_8, s171_9, s171_10, s171_11, s171_14, s171_15, s171_16, s171_17, s171_18, s171_19, s171_22, s171_23, s171_24, s171_27, s171_28, s171_31, s171_32, s171_33, s171_36, s171_37, s171_38, s171_41, s171_42, s171_43, s171_46, s171_47, s171_48, s171_51, s171_52, s171_55, s171_56, s171_57, s171_58, s171_59, s171_62, s171_63, s171_66, s171_67, s171_68, s171_71, s171_72, s171_74, s171_75, s171_78, s171_79, s171_80, s171_81, s171_83, s171_84, mco mZ.1, em, tw_bi_0]
theorem c_ring (I : Inv h) (k : Int32) : Two h 101 [.ref 1, .int k, tw_un] 173 [.ref 27, .int k] := by
  obtain ⟨nw, nt, s0, ns, nr, hk, lw, fl, tr, tfx, tfm, sw, sh, sa, f34, f35, r1, r2, r3, ft, fo, kd, wt, sz, ln, sf, g, hX, hS, hM, hR⟩ := id I
  obtain ⟨x44, xX, xS, xR, xK, ⟨oa, ob, xO⟩, ⟨lf, xL⟩, xW, xWK, xT, xTx⟩ := id hX
  obtain ⟨⟨a1, a2, a3, mZ⟩, mR, ⟨hd, mH⟩, ⟨mf, mL⟩, mA⟩ := id hM
  obtain ⟨r8, r6, r0, rs, rW, rT, rN, rF⟩ := id hR
  have ew := x_workOf xX xW k
  have em := m_noWork mZ.1 k
  by_cases qk : ¬ k < 0 ∧ k < nI nw
  · obtain ⟨j, hj, rfl⟩ := xWK.isref r8 qk
    obtain ⟨a, wa, a43, ah, ac, ak⟩ := xWK.ref r8 hj
    rw [wa] at ew
    have ev := tw_vi_n (show j < 8 by omega) (by decide)
    have ec := nI_clamp (show j < 2 ^ 31 by omega)
    have a0 : a ≠ 0 := by omega
    have a7 : a ≠ 7 := by omega
    have gM : ∀ tr', (tw_set h 7 (oC 8 [.int tr'])).2.2 27 = some (mC fl (nI nt) (nI nw) hk lw (nI s0) (-9) a1 a2 a3 (nI ns) (nI nr) tr) := fun tr' => by rw [tw_sg, if_neg (by decide)]; exact mZ.1
    by_cases z : kd j = 2
    · rw [z] at ac
      have hco : tw_co h a = some 4 := by simp [tw_co, ac, a0, clsK]
      have et := x_leave xT 5
      refine ⟨.int 30, tw_set h 7 (oC 8 [.int (31 * tr + 5)]), _, ?_, ?_, Inv.trc hX hS hM hR (31 * tr + 5) a1 a2 a3, by rw [tw_sg1, tw_sg1]; omega, by rw [tw_sg2, tw_sg2]; omega⟩
      · simp [s101_0, s101_1, s101_2, s101_5, s101_5n, s101_6, s101_6n, s101_7, s101_7n, s101_10, s101_11, s101_14, s101_14n, s101_15, s101_16, s101_19c9, s101_19c0, s101_19c4, s101_22, s102_0, s102_0n, s102_1, s102_2, s102_5, s102_7, xco xX, ew, tw_gf, xX, hco, x_co7 xT, et]
      · have em1 := m_noWork (gM (31 * tr + 5)) (nI j)
        rw [decide_eq_true qk] at em1
        simp [s173_0, s173_1, s173_2, s173_5, s173_8, s173_9, s173_10, s173_11, s173_12, s173_15, s173_16, s173_17, s173_18, s173_21, s173_22, s173_25, s173_26, s173_29, s173_30, s173_33, s173_34, s173_35, s173_36, s173_39, s173_41, s173_44, s173_45, mco (gM (31 * tr + 5)), em1, tw_bi_0, tw_gf, tw_ia, tw_sg, mZ.1, mZ.2.2.1, ev, ec, z, m_traced (gM (31 * tr + 5))]
    · have z1 : kd j = 0 ∨ kd j = 1 := by
        rcases ak with y | y | y
        · exact Or.inl y
        · exact Or.inr y
        · exact absurd y z
      have et := x_leave xT 4
      refine ⟨.int (nI j), tw_set h 7 (oC 8 [.int (31 * tr + 4)]), _, ?_, ?_, Inv.trc hX hS hM hR (31 * tr + 4) a1 a2 a3, by rw [tw_sg1, tw_sg1]; omega, by rw [tw_sg2, tw_sg2]; omega⟩
      · rcases z1 with y | y
        · rw [y] at ac
          have hco : tw_co h a = some 9 := by simp [tw_co, ac, a0, clsK]
          simp [s101_0, s101_1, s101_2, s101_5, s101_5n, s101_6, s101_6n, s101_7, s101_7n, s101_10, s101_11, s101_14, s101_14n, s101_15, s101_16, s101_19c9, s101_19c0, s101_19c4, s101_22, s103_0, s103_0n, s103_1, s103_2, s103_5, s103_6, s103_9, xco xX, ew, tw_gf, xX, hco, x_co7 xT, et, tw_sg, a7, a0, ac, clsK]
        · rw [y] at ac
          have hco : tw_co h a = some 0 := by simp [tw_co, ac, a0, clsK]
          simp [s101_0, s101_1, s101_2, s101_5, s101_5n, s101_6, s101_6n, s101_7, s101_7n, s101_10, s101_11, s101_14, s101_14n, s101_15, s101_16, s101_19c9, s101_19c0, s101_19c4, s101_22, s103_0, s103_0n, s103_1, s103_2, s103_5, s103_6, s103_9, xco xX, ew, tw_gf, xX, hco, x_co7 xT, et, tw_sg, a7, a0, ac, clsK]
      · have em1 := m_noWork (gM (31 * tr + 4)) (nI j)
        rw [decide_eq_true qk] at em1
        simp [s173_0, s173_1, s173_2, s173_5, s173_8, s173_9, s173_10, s173_11, s173_12, s173_15, s173_16, s173_17, s173_18, s173_21, s173_22, s173_25, s173_26, s173_29, s173_30, s173_33, s173_34, s173_35, s173_36, s173_39, s173_41, s173_44, s173_45, mco (gM (31 * tr + 4)), em1, tw_bi_0, tw_gf, tw_ia, tw_sg, mZ.1, mZ.2.2.1, ev, ec, z, m_traced (gM (31 * tr + 4))]
  · rw [(xWK.null r8 k).mpr qk] at ew
    rw [decide_eq_false qk] at em
    refine ⟨.int (-1), h, h, ?_, ?_, I, by omega, by omega⟩
    · simp [s101_0, s101_1, s101_2, s101_5, s101_5n, s101_6, s101_6n, s101_7, s101_7n, s101_10, s101_11, s101_14, s101_14n, s101_15, s101_16, s101_19c9, s101_19c0, s101_19c4, s101_22, xco xX, ew]
    · simp [s173_0, s173_1, s173_2, s173_5, s173_8, s173_9, s173_10, s173_11, s173_12, s173_15, s173_16, s173_17, s173_18, s173_21, s173_22, s173_25, s173_26, s173_29, s173_30, s173_33, s173_34, s173_35, s173_36, s173_39, s173_41, s173_44, s173_45, mco mZ.1, em, tw_bi_0]
theorem c_as (I : Inv h) (k kind : Int32) : Two h 104 [.ref 1, .int k, .int kind, tw_un] 174 [.ref 27, .int k, .int kind] := by
  obtain ⟨nw, nt, s0, ns, nr, hk, lw, fl, tr, tfx, tfm, sw, sh, sa, f34, f35, r1, r2, r3, ft, fo, kd, wt, sz, ln, sf, g, hX, hS, hM, hR⟩ := id I
  obtain ⟨x44, xX, xS, xR, xK, ⟨oa, ob, xO⟩, ⟨lf, xL⟩, xW, xWK, xT, xTx⟩ := id hX
  obtain ⟨⟨a1, a2, a3, mZ⟩, mR, ⟨hd, mH⟩, ⟨mf, mL⟩, mA⟩ := id hM
  obtain ⟨r8, r6, r0, rs, rW, rT, rN, rF⟩ := id hR
  have i3 : ((0 : Int64) ≤ kind.toInt64) = ¬ kind < 0 := l_ge kind 0 0 rfl
  have i4 : (kind.toInt64 ≤ (2 : Int64)) = ¬ 2 < kind := l_le kind 2 2 rfl
  have i5 : (¬ kind < 0 ∧ ¬ 2 < kind) = (¬ kind < 0 ∧ kind < 3) := by
    rw [Int32.lt_iff_toInt_lt, Int32.lt_iff_toInt_lt, Int32.lt_iff_toInt_lt]
    have : (2 : Int32).toInt = 2 := rfl
    have : (3 : Int32).toInt = 3 := rfl
    exact propext (by omega)
  have hi := fun h => m_in kind.toInt64 0 2 h
  obtain ⟨H1, hH1⟩ : ∃ H1, H1 = tw_set h 1 (xC (nI nw) hk lw (nI s0) 0) := ⟨_, rfl⟩
  have g1 : H1.2.2 1 = some (xC (nI nw) hk lw (nI s0) 0) := by rw [hH1, tw_sg, if_pos rfl]
  have o1 : ∀ a, a ≠ 1 → H1.2.2 a = h.2.2 a := fun a ha => by rw [hH1, tw_sg, if_neg ha]
  have ew := x_workOf g1 (by rw [o1 18 (by decide)]; exact xW) k
  have gM : ∀ fl', (tw_set h 1 (xC (nI nw) hk lw (nI s0) fl')).2.2 27 = some (mC fl (nI nt) (nI nw) hk lw (nI s0) (-9) a1 a2 a3 (nI ns) (nI nr) tr) := fun fl' => by rw [tw_sg, if_neg (by decide)]; exact mZ.1
  have gK : ∀ fl', (tw_set h 1 (xC (nI nw) hk lw (nI s0) fl')).2.2 29 = some (iC 8 kd) := fun fl' => by rw [tw_sg, if_neg (by decide)]; exact mZ.2.2.1
  have fin : ∀ fl' v, tw_b 104 0 [.ref 1, .int k, .int kind, tw_un] [] h = some (some v, tw_set h 1 (xC (nI nw) hk lw (nI s0) fl')) → tw_b 174 0 [.ref 27, .int k, .int kind] [] (tw_set h 1 (xC (nI nw) hk lw (nI s0) fl')) = some (some v, tw_set (tw_set h 1 (xC (nI nw) hk lw (nI s0) fl')) 27 (mC fl' (nI nt) (nI nw) hk lw (nI s0) (-9) a1 a2 a3 (nI ns) (nI nr) tr)) → Two h 104 [.ref 1, .int k, .int kind, tw_un] 174 [.ref 27, .int k, .int kind] := fun fl' v e1 e2 => ⟨v, _, _, e1, e2, Inv.flt hX hS hM hR fl' a1 a2 a3, by rw [tw_sg1, tw_sg1]; omega, by rw [tw_sg2, tw_sg2]; omega⟩
  by_cases qk : ¬ k < 0 ∧ k < nI nw
  · obtain ⟨j, hj, rfl⟩ := xWK.isref r8 qk
    obtain ⟨a, wa, a43, ah, ac, ak⟩ := xWK.ref r8 hj
    rw [wa] at ew
    have ev := tw_vi_n (show j < 8 by omega) (by decide)
    have ec := nI_clamp (show j < 2 ^ 31 by omega)
    have a0 : a ≠ 0 := by omega
    have em := fun fl' => m_noWork (gM fl') (nI j)
    simp only [decide_eq_true qk] at em
    have ac1 : H1.2.2 a = some (oC (clsK (kd j)) [.int (nI j), .int (wt j)]) := by rw [o1 a (by omega)]; exact ac
    have ek : tw_co H1 a = some (clsK (kd j)) := by simp [tw_co, ac1, a0]
    have ekx := x_kindW (a := a) H1
    by_cases q : ¬ kind < 0 ∧ kind < 3
    · simp only [show decide ((0 : Int64) ≤ kind.toInt64 ∧ kind.toInt64 ≤ 2) = true from by rw [decide_eq_true_iff, i3, i4, i5]; exact q] at hi
      by_cases q2 : kd j < kind
      · refine fin 2 (.int (-12)) ?_ ?_
        · have ef := x_faulted g1 2
          rw [hH1, tw_ss, ← hH1] at ef
          rcases ak with z | z | z <;> rw [z] at ek q2 <;> simp only [clsK] at ek <;> simp [s104_0, s104_1, s104_2, s104_5, s104_6, s104_7, s104_10, s104_10n, s104_11, s104_11n, s104_12, s104_12n, s104_15, s104_16, s104_17, s104_18, s104_21, s104_22, s104_23, s104_26, s104_28, s104_29, s104_29n, s104_30c9, s104_30c0, s104_30c4, s104_33, s104_34, s104_37, s104_38, s104_41, s104_42, s104_43, s104_46, tw_sf, xX, tw_fit, ← hH1, xco g1, ew, q, ek, ekx.1, ekx.2.1, ekx.2.2, q2, ef]
        · simp [s174_0, s174_1, s174_2, s174_5, s174_8, s174_9, s174_10, s174_13, s174_14, s174_15, s174_16, s174_17, s174_20, s174_23, s174_26, s174_27, s174_29, s174_32, s174_33, s174_34, s174_37, s174_38, s174_39, s174_40, s174_43, s174_44, s174_45, s174_48, s174_51, s174_52, s174_53, s174_56, mco (gM 2), em, tw_bi_0, hi, tw_gf, tw_ia, gM, gK, ev, ec, q2, m_failed (gM 2)]
      · refine fin 0 (.int 1) ?_ ?_
        · rcases ak with z | z | z <;> rw [z] at ek q2 <;> simp only [clsK] at ek <;> simp [s104_0, s104_1, s104_2, s104_5, s104_6, s104_7, s104_10, s104_10n, s104_11, s104_11n, s104_12, s104_12n, s104_15, s104_16, s104_17, s104_18, s104_21, s104_22, s104_23, s104_26, s104_28, s104_29, s104_29n, s104_30c9, s104_30c0, s104_30c4, s104_33, s104_34, s104_37, s104_38, s104_41, s104_42, s104_43, s104_46, tw_sf, xX, tw_fit, ← hH1, xco g1, ew, q, ek, ekx.1, ekx.2.1, ekx.2.2, q2]
        · simp [s174_0, s174_1, s174_2, s174_5, s174_8, s174_9, s174_10, s174_13, s174_14, s174_15, s174_16, s174_17, s174_20, s174_23, s174_26, s174_27, s174_29, s174_32, s174_33, s174_34, s174_37, s174_38, s174_39, s174_40, s174_43, s174_44, s174_45, s174_48, s174_51, s174_52, s174_53, s174_56, mco (gM 0), em, tw_bi_0, hi, tw_gf, tw_ia, gM, gK, ev, ec, q2, m_refused (gM 0)]
    · simp only [show decide ((0 : Int64) ≤ kind.toInt64 ∧ kind.toInt64 ≤ 2) = false from by rw [decide_eq_false_iff_not, i3, i4, i5]; exact q] at hi
      refine fin 0 (.int (-2)) ?_ ?_
      · by_cases q1 : kind < 0
        · simp [s104_0, s104_1, s104_2, s104_5, s104_6, s104_7, s104_10, s104_10n, s104_11, s104_11n, s104_12, s104_12n, s104_15, s104_16, s104_17, s104_18, s104_21, s104_22, s104_23, s104_26, s104_28, s104_29, s104_29n, s104_30c9, s104_30c0, s104_30c4, s104_33, s104_34, s104_37, s104_38, s104_41, s104_42, s104_43, s104_46, tw_sf, xX, tw_fit, ← hH1, xco g1, ew, q1]
        · have q2 : ¬ kind < 3 := fun z => q ⟨q1, z⟩
          simp [s104_0, s104_1, s104_2, s104_5, s104_6, s104_7, s104_10, s104_10n, s104_11, s104_11n, s104_12, s104_12n, s104_15, s104_16, s104_17, s104_18, s104_21, s104_22, s104_23, s104_26, s104_28, s104_29, s104_29n, s104_30c9, s104_30c0, s104_30c4, s104_33, s104_34, s104_37, s104_38, s104_41, s104_42, s104_43, s104_46, tw_sf, xX, tw_fit, ← hH1, xco g1, ew, q1, q2]
      · simp [s174_0, s174_1, s174_2, s174_5, s174_8, s174_9, s174_10, s174_13, s174_14, s174_15, s174_16, s174_17, s174_20, s174_23, s174_26, s174_27, s174_29, s174_32, s174_33, s174_34, s174_37, s174_38, s174_39, s174_40, s174_43, s174_44, s174_45, s174_48, s174_51, s174_52, s174_53, s174_56, mco (gM 0), em, tw_bi_0, hi, m_refused (gM 0)]
  · rw [(xWK.null r8 k).mpr qk] at ew
    have em := m_noWork (gM 0) k
    rw [decide_eq_false qk] at em
    refine fin 0 (.int (-1)) ?_ ?_
    · simp [s104_0, s104_1, s104_2, s104_5, s104_6, s104_7, s104_10, s104_10n, s104_11, s104_11n, s104_12, s104_12n, s104_15, s104_16, s104_17, s104_18, s104_21, s104_22, s104_23, s104_26, s104_28, s104_29, s104_29n, s104_30c9, s104_30c0, s104_30c4, s104_33, s104_34, s104_37, s104_38, s104_41, s104_42, s104_43, s104_46, tw_sf, xX, tw_fit, ← hH1, xco g1, ew]
    · simp [s174_0, s174_1, s174_2, s174_5, s174_8, s174_9, s174_10, s174_13, s174_14, s174_15, s174_16, s174_17, s174_20, s174_23, s174_26, s174_27, s174_29, s174_32, s174_33, s174_34, s174_37, s174_38, s174_39, s174_40, s174_43, s174_44, s174_45, s174_48, s174_51, s174_52, s174_53, s174_56, mco (gM 0), em, tw_bi_0, m_refused (gM 0)]
end J3
