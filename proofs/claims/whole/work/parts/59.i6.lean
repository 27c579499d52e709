/-! storms, readings, what works tell -/
section I7
variable {h : tw_H}
theorem upd_lt {f : Nat → Int32} {n j : Nat} {x : Int32} (hj : j < n) : upd f n x j = f j := by
  unfold upd
  rw [if_neg (by omega)]
theorem upd_eq {f : Nat → Int32} {n : Nat} {x : Int32} : upd f n x n = x := by simp [upd]
theorem c_storm (I : Inv h) (hour v : Int32) : Two h 46 [.ref 1, .int hour, .int v] 129 [.ref 27, .int hour, .int v] := by
  obtain ⟨nw, nt, s0, ns, nr, hk, lw, fl, tr, tfx, tfm, sw, sh, sa, f34, f35, r1, r2, r3, ft, fo, kd, wt, sz, ln, sf, g, hX, hS, hM, hR⟩ := id I
  obtain ⟨x44, xX, xS, xR, xK, ⟨oa, ob, xO⟩, ⟨lf, xL⟩, xW, xWK, xT, xTx⟩ := id hX
  obtain ⟨⟨a1, a2, a3, mZ⟩, mR, ⟨hd, mH⟩, ⟨mf, mL⟩, mA⟩ := id hM
  obtain ⟨r8, r6, r0, rs, rW, rT, rN, rF⟩ := id hR
  have i1 : ((-59 : Int64) ≤ v.toInt64) = ¬ v < -59 := l_ge v (-59) (-59) rfl
  have i2 : (v.toInt64 ≤ (59 : Int64)) = ¬ 59 < v := l_le v 59 59 rfl
  have hi := fun h => m_in v.toInt64 (-59) 59 h
  have n6 : ns ≤ 6 := xS.2.2.2.2.2.2
  by_cases hw0 : nw = 0
  · have w0 : nI nw = 0 := by rw [hw0]; rfl
    refine ⟨.int (-3), h, h, ?_, ?_, I, by omega, by omega⟩
    · simp [s46_0, s46_1, s46_4, s46_7, s46_9, s46_10, s46_11, s46_14, s46_17, s46_18, s46_21, s46_24, s46_26, s46_27, s46_28, s46_31, s46_34, s46_35, s46_36, s46_37, s46_40, xco xX, x_hasNoTown xX, tw_bi_0, w0]
    · simp [s129_0, s129_1, s129_4, s129_7, s129_9, s129_10, s129_11, s129_14, s129_17, s129_18, s129_19, s129_22, s129_25, s129_28, s129_31, s129_33, s129_34, s129_35, s129_38, s129_40, s129_43, s129_45, s129_46, s129_47, s129_50, s129_51, s129_54, s129_55, s129_56, s129_57, s129_60, s129_61, s129_64, s129_65, s129_66, s129_67, s129_68, s129_71, s129_72, s129_73, s129_76, s129_77, s129_80, s129_81, s129_82, tw_gf, mZ.1, w0]
  have wne : ¬ nI nw = 0 := nI_ne0 (by omega) (by omega)
  by_cases q : (¬ hour < 0 ∧ hour < 60) ∧ (¬ v < -59 ∧ ¬ 59 < v)
  · simp only [show decide ((-59 : Int64) ≤ v.toInt64 ∧ v.toInt64 ≤ 59) = true from by rw [decide_eq_true_iff, i1, i2]; exact q.2] at hi
    have ef := fun h => x_isForce v h
    simp only [decide_eq_true q.2] at ef
    have c9 : tw_co h 9 = some 2 := xS.co9
    by_cases qf : ns = 6
    · subst qf
      have ea := x_addF xS.2.2.1 (by decide) xS.2.2.2.1 (by decide) (-1) hour v
      refine ⟨.int (-4), h, h, ?_, ?_, I, by omega, by omega⟩
      · simp [s46_0, s46_1, s46_4, s46_7, s46_9, s46_10, s46_11, s46_14, s46_17, s46_18, s46_21, s46_24, s46_26, s46_27, s46_28, s46_31, s46_34, s46_35, s46_36, s46_37, s46_40, xco xX, x_hasNoTown xX, tw_bi_0, wne, x_isHour, q.1, ef, tw_gf, xX, xS.1, c9, ea]
      · simp [s129_0, s129_1, s129_4, s129_7, s129_9, s129_10, s129_11, s129_14, s129_17, s129_18, s129_19, s129_22, s129_25, s129_28, s129_31, s129_33, s129_34, s129_35, s129_38, s129_40, s129_43, s129_45, s129_46, s129_47, s129_50, s129_51, s129_54, s129_55, s129_56, s129_57, s129_60, s129_61, s129_64, s129_65, s129_66, s129_67, s129_68, s129_71, s129_72, s129_73, s129_76, s129_77, s129_80, s129_81, s129_82, tw_gf, mZ.1, wne, m_isHour, q.1, hi, tw_bi_0, show nI 6 = 6 from rfl]
    have ea := x_addO xS.2.2.1 (by decide) xS.2.2.2.1 xS.2.2.2.2.1 xS.2.2.2.2.2.1 (by decide) (show ns < 6 by omega) (by decide) (-1) hour v
    obtain ⟨H1, hH1⟩ : ∃ H1, H1 = tw_set (tw_set (tw_set (tw_set h 10 (iC 6 (upd sw ns (-1)))) 11 (iC 6 (upd sh ns hour))) 12 (iC 6 (upd sa ns v))) 9 (oC 2 [.int (nI (ns + 1)), .ref 10, .ref 11, .ref 12]) := ⟨_, rfl⟩
    rw [← hH1] at ea
    have o1 : ∀ a, a ≠ 9 ∧ a ≠ 10 ∧ a ≠ 11 ∧ a ≠ 12 → H1.2.2 a = h.2.2 a := fun a ha => by rw [hH1, tw_sg, if_neg ha.1, tw_sg, if_neg ha.2.2.2, tw_sg, if_neg ha.2.2.1, tw_sg, if_neg ha.2.1]
    have e11 : H1.1 = h.1 := by rw [hH1]; rfl
    have e12 : H1.2.1 = h.2.1 := by rw [hH1]; rfl
    have hX1 : XI H1 nw nt s0 (ns + 1) nr hk lw fl tr tfx (upd sw ns (-1)) (upd sh ns hour) (upd sa ns v) r1 r2 r3 ft fo kd wt g := by
      obtain ⟨x1, x2, x3, x4, x5, ⟨oa, ob, x6⟩, ⟨lf, x7⟩, x8, x9, x10, ti, wo, pl, fr, si, co, A, B, C, x11⟩ := hX
      refine ⟨by omega, by rw [o1 1 (by decide)]; exact x2, ⟨by rw [o1 8 (by decide)]; exact x3.1, by rw [o1 13 (by decide)]; exact x3.2.1, by rw [hH1, tw_sg, if_pos rfl], by rw [hH1]; simp [tw_sg], by rw [hH1]; simp [tw_sg], by rw [hH1]; simp [tw_sg], by omega⟩, ?_, ?_, ⟨oa, ob, ?_⟩, ⟨lf, ?_⟩, by rw [o1 18 (by decide)]; exact x8, x9.congr (by omega) (fun a h1 _ => o1 a (by omega)), by rw [o1 7 (by decide)]; exact x10, ti, wo, pl, fr, si, co, A, B, C, ?_⟩
      · unfold XR at x4 ⊢; rw [o1 14 (by decide), o1 15 (by decide), o1 16 (by decide), o1 17 (by decide)]; exact x4
      · unfold XK at x5 ⊢; rw [o1 19 (by decide), o1 20 (by decide), o1 21 (by decide)]; exact x5
      · unfold XK at x6 ⊢; rw [o1 22 (by decide), o1 23 (by decide), o1 24 (by decide)]; exact x6
      · unfold XL at x7 ⊢; rw [o1 25 (by decide), o1 26 (by decide)]; exact x7
      · rw [o1 3 (by decide), o1 4 (by decide), o1 5 (by decide), o1 6 (by decide)]; exact x11
    have hS1 : SI H1 sz ln sf := hS.congr (by omega) (o1 2 (by decide)) (fun a h1 _ => o1 a (by omega))
    have hM1 := hM.congr (h' := H1) (fun a h1 h2 => o1 a (by omega))
    have gM : H1.2.2 27 = some (mC fl (nI nt) (nI nw) hk lw (nI s0) (-9) a1 a2 a3 (nI ns) (nI nr) tr) := by rw [o1 27 (by decide)]; exact mZ.1
    have g34 : H1.2.2 34 = some (iC 7 f34) := by rw [o1 34 (by decide)]; exact mZ.2.2.2.2.1
    have g35 : H1.2.2 35 = some (iC 7 f35) := by rw [o1 35 (by decide)]; exact mZ.2.2.2.2.2
    obtain ⟨H2, hH2⟩ : ∃ H2, H2 = tw_set (tw_set (tw_set H1 34 (iC 7 (upd f34 ns hour))) 35 (iC 7 (upd f35 ns v))) 27 (mC fl (nI nt) (nI nw) hk lw (nI s0) (-9) a1 a2 a3 (nI (ns + 1)) (nI nr) tr) := ⟨_, rfl⟩
    have o2 : ∀ a, a ≠ 27 ∧ a ≠ 34 ∧ a ≠ 35 → H2.2.2 a = H1.2.2 a := fun a ha => by rw [hH2, tw_sg, if_neg ha.1, tw_sg, if_neg ha.2.2, tw_sg, if_neg ha.2.1]
    have ev := tw_vi_n (show ns < 7 by omega) (by decide)
    have ec := nI_clamp (show ns < 2 ^ 31 by omega)
    have s6 : ¬ nI ns = 6 := fun z => by
      have := (nI_eq (a := ns) (b := 6) (by omega) (by omega)).mp z
      omega
    refine ⟨.int (nI ns), H1, H2, ?_, ?_, ⟨nw, nt, s0, ns + 1, nr, hk, lw, fl, tr, tfx, tfm, upd sw ns (-1), upd sh ns hour, upd sa ns v, upd f34 ns hour, upd f35 ns v, r1, r2, r3, ft, fo, kd, wt, sz, ln, sf, g, hX1.congr (by rw [hH2]; rfl) (fun a ha => o2 a (by omega)), hS1.congr (by rw [hH2]; exact Nat.le_refl _) (o2 2 (by decide)) (fun a h1 _ => o2 a (by omega)), ?_, r8, r6, r0, rs, rW, rT, fun j hj => ?_, rF⟩, by rw [hH2]; show H1.1 ≤ _; omega, by rw [hH2]; show H1.2.1 ≤ _; omega⟩
    · simp [s46_0, s46_1, s46_4, s46_7, s46_9, s46_10, s46_11, s46_14, s46_17, s46_18, s46_21, s46_24, s46_26, s46_27, s46_28, s46_31, s46_34, s46_35, s46_36, s46_37, s46_40, xco xX, x_hasNoTown xX, tw_bi_0, wne, x_isHour, q.1, ef, tw_gf, xX, xS.1, c9, ea]
    · rw [hH2]
      simp [s129_0, s129_1, s129_4, s129_7, s129_9, s129_10, s129_11, s129_14, s129_17, s129_18, s129_19, s129_22, s129_25, s129_28, s129_31, s129_33, s129_34, s129_35, s129_38, s129_40, s129_43, s129_45, s129_46, s129_47, s129_50, s129_51, s129_54, s129_55, s129_56, s129_57, s129_60, s129_61, s129_64, s129_65, s129_66, s129_67, s129_68, s129_71, s129_72, s129_73, s129_76, s129_77, s129_80, s129_81, s129_82, tw_gf, tw_sf, tw_ix, tw_sg, gM, g34, g35, wne, m_isHour, q.1, hi, tw_bi_0, s6, ev, ec, tw_fit, nI_1, nI_pred]
    · obtain ⟨⟨b1, b2, b3, m1⟩, m2', ⟨hd', m3'⟩, ⟨f', m4'⟩, A, B, C, m5⟩ := hM1
      refine ⟨⟨a1, a2, a3, by rw [hH2, tw_sg, if_pos rfl], by rw [o2 28 (by decide)]; exact m1.2.1, by rw [o2 29 (by decide)]; exact m1.2.2.1, by rw [o2 30 (by decide)]; exact m1.2.2.2.1, by rw [hH2]; simp [tw_sg], by rw [hH2]; simp [tw_sg]⟩, ?_, ⟨hd', ?_⟩, ⟨f', by rw [o2 36 (by decide)]; exact m4'⟩, A, B, C, ?_⟩
      · unfold MR at m2' ⊢; rw [o2 37 (by decide), o2 38 (by decide), o2 39 (by decide)]; exact m2'
      · unfold MH at m3' ⊢; rw [o2 40 (by decide), o2 41 (by decide), o2 42 (by decide), o2 43 (by decide)]; exact m3'
      · rw [o2 31 (by decide), o2 32 (by decide), o2 33 (by decide)]; exact m5
    · by_cases z : j = ns
      · subst z; rw [upd_eq, upd_eq, upd_eq, upd_eq]; exact ⟨rfl, rfl⟩
      · rw [upd_lt (by omega), upd_lt (by omega), upd_lt (by omega), upd_lt (by omega)]; exact rN j (by omega)
  · refine ⟨.int (-2), h, h, ?_, ?_, I, by omega, by omega⟩
    · have eh := x_isHour hour h
      have ef := x_isForce v h
      by_cases q1 : ¬ hour < 0 ∧ hour < 60
      · rw [decide_eq_true q1] at eh
        rw [decide_eq_false (fun z => q ⟨q1, z⟩)] at ef
        simp [s46_0, s46_1, s46_4, s46_7, s46_9, s46_10, s46_11, s46_14, s46_17, s46_18, s46_21, s46_24, s46_26, s46_27, s46_28, s46_31, s46_34, s46_35, s46_36, s46_37, s46_40, xco xX, x_hasNoTown xX, tw_bi_0, wne, eh, ef]
      · rw [decide_eq_false q1] at eh
        simp [s46_0, s46_1, s46_4, s46_7, s46_9, s46_10, s46_11, s46_14, s46_17, s46_18, s46_21, s46_24, s46_26, s46_27, s46_28, s46_31, s46_34, s46_35, s46_36, s46_37, s46_40, xco xX, x_hasNoTown xX, tw_bi_0, wne, eh]
    · have eh := m_isHour hour h
      by_cases q1 : ¬ hour < 0 ∧ hour < 60
      · rw [decide_eq_true q1] at eh
        have hi' := hi h
        rw [show decide ((-59 : Int64) ≤ v.toInt64 ∧ v.toInt64 ≤ 59) = false from by rw [decide_eq_false_iff_not, i1, i2]; exact fun z => q ⟨q1, z⟩] at hi'
        simp [s129_0, s129_1, s129_4, s129_7, s129_9, s129_10, s129_11, s129_14, s129_17, s129_18, s129_19, s129_22, s129_25, s129_28, s129_31, s129_33, s129_34, s129_35, s129_38, s129_40, s129_43, s129_45, s129_46, s129_47, s129_50, s129_51, s129_54, s129_55, s129_56, s129_57, s129_60, s129_61, s129_64, s129_65, s129_66, s129_67, s129_68, s129_71, s129_72, s129_73, s129_76, s129_77, s129_80, s129_81, s129_82, tw_gf, mZ.1, wne, eh, hi', tw_bi_0]
      · rw [decide_eq_false q1] at eh
        simp [s129_0, s129_1, s129_4, s129_7, s129_9, s129_10, s129_11, s129_14, s129_17, s129_18, s129_19, s129_22, s129_25, s129_28, s129_31, s129_33, s129_34, s129_35, s129_38, s129_40, s129_43, s129_45, s129_46, s129_47, s129_50, s129_51, s129_54, s129_55, s129_56, s129_57, s129_60, s129_61, s129_64, s129_65, s129_66, s129_67, s129_68, s129_71, s129_72, s129_73, s129_76, s129_77, s129_80, s129_81, s129_82, tw_gf, mZ.1, wne, eh, tw_bi_0]
theorem c_reading (I : Inv h) (k hour late : Int32) : Two h 77 [.ref 1, .int k, .int hour, .int late] 154 [.ref 27, .int k, .int hour, .int late] := by
  obtain ⟨nw, nt, s0, ns, nr, hk, lw, fl, tr, tfx, tfm, sw, sh, sa, f34, f35, r1, r2, r3, ft, fo, kd, wt, sz, ln, sf, g, hX, hS, hM, hR⟩ := id I
  obtain ⟨x44, xX, xS, xR, xK, ⟨oa, ob, xO⟩, ⟨lf, xL⟩, xW, xWK, xT, xTx⟩ := id hX
  obtain ⟨⟨a1, a2, a3, mZ⟩, mR, ⟨hd, mH⟩, ⟨mf, mL⟩, mA⟩ := id hM
  obtain ⟨r8, r6, r0, rs, rW, rT, rN, rF⟩ := id hR
  have i1 : ((0 : Int64) ≤ late.toInt64) = ¬ late < 0 := l_ge late 0 0 rfl
  have i2 : (late.toInt64 ≤ (60 : Int64)) = ¬ 60 < late := l_le late 60 60 rfl
  have hi := fun h => m_in late.toInt64 0 60 h
  have n8 : nr ≤ 8 := xR.2.2.2.2
  have ew := x_workOf xX xW k
  have em := m_noWork mZ.1 k
  by_cases qk : ¬ k < 0 ∧ k < nI nw
  · obtain ⟨kj, hj, rfl⟩ := xWK.isref r8 qk
    obtain ⟨a, wa, a43, ah, ac, ak⟩ := xWK.ref r8 hj
    rw [wa] at ew
    rw [decide_eq_true qk] at em
    by_cases q : (¬ hour < 0 ∧ hour < 60) ∧ (¬ late < 0 ∧ ¬ 60 < late)
    · simp only [show decide ((0 : Int64) ≤ late.toInt64 ∧ late.toInt64 ≤ 60) = true from by rw [decide_eq_true_iff, i1, i2]; exact q.2] at hi
      have c14 : tw_co h 14 = some 2 := xR.co
      by_cases qf : nr = 8
      · subst qf
        have ea := x_addF xR.1 (by decide) xR.2.1 (by decide) (nI kj) hour late
        refine ⟨.int (-4), h, h, ?_, ?_, I, by omega, by omega⟩
        · simp [s77_0, s77_1, s77_2, s77_5, s77_5n, s77_8, s77_9, s77_10, s77_11, s77_14, s77_17, s77_18, s77_21, s77_22, s77_24, s77_27, s77_29, s77_30, s77_31, s77_34, s77_35, s77_36, s77_37, s77_40, xco xX, ew, x_isHour, tw_bi_0, q.1, q.2, tw_gf, xX, c14, ea]
        · simp [s154_0, s154_1, s154_2, s154_5, s154_8, s154_9, s154_10, s154_11, s154_14, s154_17, s154_18, s154_19, s154_20, s154_23, s154_26, s154_29, s154_31, s154_32, s154_33, s154_36, s154_38, s154_41, s154_43, s154_44, s154_45, s154_48, s154_49, s154_52, s154_53, s154_54, s154_55, s154_58, s154_59, s154_62, s154_63, s154_64, s154_65, s154_68, s154_69, s154_72, s154_73, s154_74, s154_75, s154_76, s154_79, s154_80, s154_81, s154_84, s154_85, s154_88, s154_89, s154_90, mco mZ.1, em, tw_gf, mZ.1, m_isHour, q.1, hi, tw_bi_0, show nI 8 = 8 from rfl]
      have ea := x_addO xR.1 (by decide) xR.2.1 xR.2.2.1 xR.2.2.2.1 (by decide) (show nr < 8 by omega) (by decide) (nI kj) hour late
      obtain ⟨H1, hH1⟩ : ∃ H1, H1 = tw_set (tw_set (tw_set (tw_set h 15 (iC 8 (upd r1 nr (nI kj)))) 16 (iC 8 (upd r2 nr hour))) 17 (iC 8 (upd r3 nr late))) 14 (oC 2 [.int (nI (nr + 1)), .ref 15, .ref 16, .ref 17]) := ⟨_, rfl⟩
      rw [← hH1] at ea
      have o1 : ∀ a, a ≠ 14 ∧ a ≠ 15 ∧ a ≠ 16 ∧ a ≠ 17 → H1.2.2 a = h.2.2 a := fun a ha => by rw [hH1, tw_sg, if_neg ha.1, tw_sg, if_neg ha.2.2.2, tw_sg, if_neg ha.2.2.1, tw_sg, if_neg ha.2.1]
      have e11 : H1.1 = h.1 := by rw [hH1]; rfl
      have e12 : H1.2.1 = h.2.1 := by rw [hH1]; rfl
      have hX1 : XI H1 nw nt s0 ns (nr + 1) hk lw fl tr tfx sw sh sa (upd r1 nr (nI kj)) (upd r2 nr hour) (upd r3 nr late) ft fo kd wt g := by
        obtain ⟨x1, x2, x3, x4, x5, ⟨oa, ob, x6⟩, ⟨lf, x7⟩, x8, x9, x10, ti, wo, pl, fr, si, co, A, B, C, x11⟩ := hX
        refine ⟨by omega, by rw [o1 1 (by decide)]; exact x2, ?_, ⟨by rw [hH1, tw_sg, if_pos rfl], by rw [hH1]; simp [tw_sg], by rw [hH1]; simp [tw_sg], by rw [hH1]; simp [tw_sg], by omega⟩, ?_, ⟨oa, ob, ?_⟩, ⟨lf, ?_⟩, by rw [o1 18 (by decide)]; exact x8, x9.congr (by omega) (fun a h1 _ => o1 a (by omega)), by rw [o1 7 (by decide)]; exact x10, ti, wo, pl, fr, si, co, A, B, C, ?_⟩
        · unfold XS at x3 ⊢; rw [o1 8 (by decide), o1 13 (by decide), o1 9 (by decide), o1 10 (by decide), o1 11 (by decide), o1 12 (by decide)]; exact x3
        · unfold XK at x5 ⊢; rw [o1 19 (by decide), o1 20 (by decide), o1 21 (by decide)]; exact x5
        · unfold XK at x6 ⊢; rw [o1 22 (by decide), o1 23 (by decide), o1 24 (by decide)]; exact x6
        · unfold XL at x7 ⊢; rw [o1 25 (by decide), o1 26 (by decide)]; exact x7
        · rw [o1 3 (by decide), o1 4 (by decide), o1 5 (by decide), o1 6 (by decide)]; exact x11
      have hS1 : SI H1 sz ln sf := hS.congr (by omega) (o1 2 (by decide)) (fun a h1 _ => o1 a (by omega))
      have hM1 := hM.congr (h' := H1) (fun a h1 h2 => o1 a (by omega))
      have gM : H1.2.2 27 = some (mC fl (nI nt) (nI nw) hk lw (nI s0) (-9) a1 a2 a3 (nI ns) (nI nr) tr) := by rw [o1 27 (by decide)]; exact mZ.1
      have em1 := m_noWork gM (nI kj)
      rw [decide_eq_true qk] at em1
      have g37 : H1.2.2 37 = some (iC 8 r1) := by rw [o1 37 (by decide)]; exact mR.1
      have g38 : H1.2.2 38 = some (iC 8 r2) := by rw [o1 38 (by decide)]; exact mR.2.1
      have g39 : H1.2.2 39 = some (iC 8 r3) := by rw [o1 39 (by decide)]; exact mR.2.2.1
      obtain ⟨H2, hH2⟩ : ∃ H2, H2 = tw_set (tw_set (tw_set (tw_set H1 37 (iC 8 (upd r1 nr (nI kj)))) 38 (iC 8 (upd r2 nr hour))) 39 (iC 8 (upd r3 nr late))) 27 (mC fl (nI nt) (nI nw) hk lw (nI s0) (-9) a1 a2 a3 (nI ns) (nI (nr + 1)) tr) := ⟨_, rfl⟩
      have o2 : ∀ a, a ≠ 27 ∧ a ≠ 37 ∧ a ≠ 38 ∧ a ≠ 39 → H2.2.2 a = H1.2.2 a := fun a ha => by rw [hH2, tw_sg, if_neg ha.1, tw_sg, if_neg ha.2.2.2, tw_sg, if_neg ha.2.2.1, tw_sg, if_neg ha.2.1]
      have ev := tw_vi_n (show nr < 8 by omega) (by decide)
      have ec := nI_clamp (show nr < 2 ^ 31 by omega)
      have s6 : ¬ nI nr = 8 := fun z => by
        have := (nI_eq (a := nr) (b := 8) (by omega) (by omega)).mp z
        omega
      refine ⟨.int (nI nr), H1, H2, ?_, ?_, ⟨nw, nt, s0, ns, nr + 1, hk, lw, fl, tr, tfx, tfm, sw, sh, sa, f34, f35, upd r1 nr (nI kj), upd r2 nr hour, upd r3 nr late, ft, fo, kd, wt, sz, ln, sf, g, hX1.congr (by rw [hH2]; rfl) (fun a ha => o2 a (by omega)), hS1.congr (by rw [hH2]; exact Nat.le_refl _) (o2 2 (by decide)) (fun a h1 _ => o2 a (by omega)), ?_, r8, r6, r0, rs, rW, rT, rN, rF⟩, by rw [hH2]; show H1.1 ≤ _; omega, by rw [hH2]; show H1.2.1 ≤ _; omega⟩
      · simp [s77_0, s77_1, s77_2, s77_5, s77_5n, s77_8, s77_9, s77_10, s77_11, s77_14, s77_17, s77_18, s77_21, s77_22, s77_24, s77_27, s77_29, s77_30, s77_31, s77_34, s77_35, s77_36, s77_37, s77_40, xco xX, ew, x_isHour, tw_bi_0, q.1, q.2, tw_gf, xX, c14, ea]
      · rw [hH2]
        simp [s154_0, s154_1, s154_2, s154_5, s154_8, s154_9, s154_10, s154_11, s154_14, s154_17, s154_18, s154_19, s154_20, s154_23, s154_26, s154_29, s154_31, s154_32, s154_33, s154_36, s154_38, s154_41, s154_43, s154_44, s154_45, s154_48, s154_49, s154_52, s154_53, s154_54, s154_55, s154_58, s154_59, s154_62, s154_63, s154_64, s154_65, s154_68, s154_69, s154_72, s154_73, s154_74, s154_75, s154_76, s154_79, s154_80, s154_81, s154_84, s154_85, s154_88, s154_89, s154_90, mco gM, em1, tw_gf, tw_sf, tw_ix, tw_sg, gM, g37, g38, g39, m_isHour, q.1, hi, tw_bi_0, s6, ev, ec, tw_fit, nI_1, nI_pred]
      · obtain ⟨⟨b1, b2, b3, m1⟩, m2', ⟨hd', m3'⟩, ⟨f', m4'⟩, A, B, C, m5⟩ := hM1
        refine ⟨⟨a1, a2, a3, by rw [hH2, tw_sg, if_pos rfl], by rw [o2 28 (by decide)]; exact m1.2.1, by rw [o2 29 (by decide)]; exact m1.2.2.1, by rw [o2 30 (by decide)]; exact m1.2.2.2.1, by rw [o2 34 (by decide)]; exact m1.2.2.2.2.1, by rw [o2 35 (by decide)]; exact m1.2.2.2.2.2⟩, ⟨by rw [hH2]; simp [tw_sg], by rw [hH2]; simp [tw_sg], by rw [hH2]; simp [tw_sg], by omega, fun x hx => ?_⟩, ⟨hd', ?_⟩, ⟨f', by rw [o2 36 (by decide)]; exact m4'⟩, A, B, C, ?_⟩
        · by_cases z : x = nr
          · subst z; exact ⟨kj, by omega, upd_eq⟩
          · rw [upd_lt (by omega)]; exact mR.2.2.2.2 x (by omega)
        · unfold MH at m3' ⊢; rw [o2 40 (by decide), o2 41 (by decide), o2 42 (by decide), o2 43 (by decide)]; exact m3'
        · rw [o2 31 (by decide), o2 32 (by decide), o2 33 (by decide)]; exact m5
    · refine ⟨.int (-2), h, h, ?_, ?_, I, by omega, by omega⟩
      · have eh := x_isHour hour h
        by_cases q1 : ¬ hour < 0 ∧ hour < 60
        · rw [decide_eq_true q1] at eh
          by_cases q2 : late < 0
          · simp [s77_0, s77_1, s77_2, s77_5, s77_5n, s77_8, s77_9, s77_10, s77_11, s77_14, s77_17, s77_18, s77_21, s77_22, s77_24, s77_27, s77_29, s77_30, s77_31, s77_34, s77_35, s77_36, s77_37, s77_40, xco xX, ew, eh, tw_bi_0, q2]
          · have q3 : 60 < late := by
              by_cases z : 60 < late
              · exact z
              · exact absurd ⟨q1, q2, z⟩ q
            simp [s77_0, s77_1, s77_2, s77_5, s77_5n, s77_8, s77_9, s77_10, s77_11, s77_14, s77_17, s77_18, s77_21, s77_22, s77_24, s77_27, s77_29, s77_30, s77_31, s77_34, s77_35, s77_36, s77_37, s77_40, xco xX, ew, eh, tw_bi_0, q2, q3]
        · rw [decide_eq_false q1] at eh
          simp [s77_0, s77_1, s77_2, s77_5, s77_5n, s77_8, s77_9, s77_10, s77_11, s77_14, s77_17, s77_18, s77_21, s77_22, s77_24, s77_27, s77_29, s77_30, s77_31, s77_34, s77_35, s77_36, s77_37, s77_40, xco xX, ew, eh, tw_bi_0]
      · have eh := m_isHour hour h
        by_cases q1 : ¬ hour < 0 ∧ hour < 60
        · rw [decide_eq_true q1] at eh
          have hi' := hi h
          rw [show decide ((0 : Int64) ≤ late.toInt64 ∧ late.toInt64 ≤ 60) = false from by rw [decide_eq_false_iff_not, i1, i2]; exact fun z => q ⟨q1, z⟩] at hi'
          simp [s154_0, s154_1, s154_2, s154_5, s154_8, s154_9, s154_10, s154_11, s154_14, s154_17, s154_18, s154_19, s154_20, s154_23, s154_26, s154_29, s154_31, s154_32, s154_33, s154_36, s154_38, s154_41, s154_43, s154_44, s154_45, s154_48, s154_49, s154_52, s154_53, s154_54, s154_55, s154_58, s154_59, s154_62, s154_63, s154_64, s154_65, s154_68, s154_69, s154_72, s154_73, s154_74, s154_75, s154_76, s154_79, s154_80, s154_81, s154_84, s154_85, s154_88, s154_89, s154_90, mco mZ.1, em, eh, hi', tw_bi_0]
        · rw [decide_eq_false q1] at eh
          simp [s154_0, s154_1, s154_2, s154_5, s154_8, s154_9, s154_10, s154_11, s154_14, s154_17, s154_18, s154_19, s154_20, s154_23, s154_26, s154_29, s154_31, s154_32, s154_33, s154_36, s154_38, s154_41, s154_43, s154_44, s154_45, s154_48, s154_49, s154_52, s154_53, s154_54, s154_55, s154_58, s154_59, s154_62, s154_63, s154_64, s154_65, s154_68, s154_69, s154_72, s154_73, s154_74, s154_75, s154_76, s154_79, s154_80, s154_81, s154_84, s154_85, s154_88, s154_89, s154_90, mco mZ.1, em, eh, tw_bi_0]
  · rw [(xWK.null r8 k).mpr qk] at ew
    rw [decide_eq_false qk] at em
    refine ⟨.int (-1), h, h, ?_, ?_, I, by omega, by omega⟩
    · simp [s77_0, s77_1, s77_2, s77_5, s77_5n, s77_8, s77_9, s77_10, s77_11, s77_14, s77_17, s77_18, s77_21, s77_22, s77_24, s77_27, s77_29, s77_30, s77_31, s77_34, s77_35, s77_36, s77_37, s77_40, xco xX, ew]
    · simp [s154_0, s154_1, s154_2, s154_5, s154_8, s154_9, s154_10, s154_11, s154_14, s154_17, s154_18, s154_19, s154_20, s154_23, s154_26, s154_29, s154_31, s154_32, s154_33, s154_36, s154_38, s154_41, s154_43, s154_44, s154_45, s154_48, s154_49, s154_52, s154_53, s154_54, s154_55, s154_58, s154_59, s154_62, s154_63, s154_64, s154_65, s154_68, s154_69, s154_72, s154_73, s154_74, s154_75, s154_76, s154_79, s154_80, s154_81, s154_84, s154_85, s154_88, s154_89, s154_90, mco mZ.1, em, tw_bi_0]
end I7
