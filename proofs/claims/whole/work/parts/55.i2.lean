/-! the calls that ask: no change beyond the scratch -/
section I2
variable {h : tw_H}
theorem Inv.q {h1 h2 : tw_H} {nw nt s0 ns nr : Nat} {hk lw fl tr : Int32} {tfx tfm sw sh sa f34 f35 rw rh ra ft fo kd wt sz ln sf : Nat → Int32} {g : Nat → Option Nat} (hX : XI h nw nt s0 ns nr hk lw fl tr tfx sw sh sa rw rh ra ft fo kd wt g) (hS : SI h sz ln sf) (hM : MI h nw nt s0 ns nr hk lw fl tr tfm f34 f35 rw rh ra kd wt sz ln sf) (hR : RI nw nt s0 ns nr hk lw tfx tfm sh sa f34 f35 ft fo kd wt) {f f' : Nat → Int32} (e1 : h1 = tw_set h 26 (iC 8 f)) (e2 : h2 = tw_set h1 36 (iC 8 f')) : Inv h2 := by
  obtain ⟨a, b, xO⟩ := hX.2.2.2.2.2.1
  have hX1 : XI h1 nw nt s0 ns nr hk lw fl tr tfx sw sh sa rw rh ra ft fo kd wt g := hX.scr (by rw [e1, tw_sg1]) (fun a ha => by rw [e1, tw_sg, if_neg ha.2.2]) (by rw [e1, tw_sg, if_neg (by decide)]; exact xO.2.1) (by rw [e1, tw_sg, if_neg (by decide)]; exact xO.2.2) (by rw [e1, tw_sg, if_pos rfl])
  have hS1 : SI h1 sz ln sf := hS.congr (by rw [e1, tw_sg1]; exact Nat.le_refl _) (by rw [e1, tw_sg, if_neg (by decide)]) (fun a h1 _ => by rw [e1, tw_sg, if_neg (by omega)])
  have hM1 : MI h1 nw nt s0 ns nr hk lw fl tr tfm f34 f35 rw rh ra kd wt sz ln sf := hM.congr (fun a h1 h2 => by rw [e1, tw_sg, if_neg (by omega)])
  exact ⟨nw, nt, s0, ns, nr, hk, lw, fl, tr, tfx, tfm, sw, sh, sa, f34, f35, rw, rh, ra, ft, fo, kd, wt, sz, ln, sf, g, hX1.congr (by rw [e2, tw_sg1]) (fun a ha => by rw [e2, tw_sg, if_neg (by omega)]), hS1.congr (by rw [e2, tw_sg1]; exact Nat.le_refl _) (by rw [e2, tw_sg, if_neg (by decide)]) (fun a h1 _ => by rw [e2, tw_sg, if_neg (by omega)]), hM1.scr (fun a ha => by rw [e2, tw_sg, if_neg ha]) (by rw [e2, tw_sg, if_pos rfl]), hR⟩
theorem c_strength (I : Inv h) (hour : Int32) : Two h 52 [.ref 1, .int hour] 132 [.ref 27, .int hour, tw_un] := by
  obtain ⟨nw, nt, s0, ns, nr, hk, lw, fl, tr, tfx, tfm, sw, sh, sa, f34, f35, r1, r2, r3, ft, fo, kd, wt, sz, ln, sf, g, hX, hS, hM, hR⟩ := id I
  obtain ⟨x44, xX, xS, xR, xK, ⟨oa, ob, xO⟩, ⟨lf, xL⟩, xW, xWK, xT, xTx⟩ := id hX
  obtain ⟨⟨a1, a2, a3, mZ⟩, mR, ⟨hd, mH⟩, ⟨mf, mL⟩, mA⟩ := id hM
  obtain ⟨r8, r6, r0, rs, rW, rT, rN, rF⟩ := id hR
  have ex := x_strength xX xS hour
  by_cases q : ¬ hour < 0 ∧ hour < 60
  · rw [if_pos q] at ex
    by_cases hw0 : nw = 0
    · have w0 : nI nw = 0 := by rw [hw0]; rfl
      rw [if_pos w0] at ex
      refine ⟨_, h, h, ex, ?_, I, by omega, by omega⟩
      simp [s132_0, s132_1, s132_2, s132_5, s132_6, s132_7, s132_10, s132_11, s132_14, s132_15, s132_16, s132_19, mco mZ.1, m_refusedFor mZ.1, q, w0]
    have hw : 0 < nw := by omega
    have n0 : 0 < nt := by
      by_cases z : nt = 0
      · have := r0.mpr z; omega
      · omega
    have hs0 := rs hw
    have hT := tid_ok n0 r6 hs0
    have hf1 := fun j (hj : j < 8) => (rF hw j hj).1
    have hf2 := fun j (hj : j < 8) => (rF hw j hj).2
    have wne : ¬ nI nw = 0 := nI_ne0 hw (by omega)
    have n6 : ns ≤ 6 := xS.2.2.2.2.2.2
    have hst := st_eq (hk := hk) (sh := sh) (sa := sa) (f34 := f34) (f35 := f35) n0 r6 hs0 rT rN hf1 hf2
    have hstr := fun s (hs : s < 60) => str_eq (sh := sh) (sa := sa) (f34 := f34) (f35 := f35) n0 r6 hs0 rT rN hs
    obtain ⟨s, hs, rfl⟩ := hour_of q
    rw [if_neg wne] at ex
    refine ⟨_, h, h, ex, ?_, I, by omega, by omega⟩
    have em := m_strengthOf mZ.1 mZ.2.1 mZ.2.2.2.2.1 mZ.2.2.2.2.2 (by omega) hT.1 (nI s) (hT.2 s hs)
    rw [hstr s hs] at em
    simp [s132_0, s132_1, s132_2, s132_5, s132_6, s132_7, s132_10, s132_11, s132_14, s132_15, s132_16, s132_19, mco mZ.1, m_refusedFor mZ.1, q, wne, em]
  · rw [if_neg q] at ex
    refine ⟨_, h, h, ex, ?_, I, by omega, by omega⟩
    have em := m_refusedFor mZ.1 hour
    rw [if_neg q] at em
    simp [s132_0, s132_1, s132_2, s132_5, s132_6, s132_7, s132_10, s132_11, s132_14, s132_15, s132_16, s132_19, mco mZ.1, em]
theorem goes_eq (a x : Int32) : a &&& ((a &&& ((a &&& x) ^^^ -1)) ^^^ -1) = a &&& x := by
  rw [← Int32.toBitVec_inj]
  simp only [Int32.toBitVec_and, Int32.toBitVec_xor, m1_bits, BitVec.xor_allOnes]
  generalize a.toBitVec = A
  generalize x.toBitVec = X
  ext i hi
  simp only [BitVec.getElem_and, BitVec.getElem_not]
  cases A[i] <;> cases X[i] <;> rfl
theorem c_goes (I : Inv h) (hour : Int32) : Two h 57 [.ref 1, .int hour] 135 [.ref 27, .int hour, tw_un] := by
  obtain ⟨nw, nt, s0, ns, nr, hk, lw, fl, tr, tfx, tfm, sw, sh, sa, f34, f35, r1, r2, r3, ft, fo, kd, wt, sz, ln, sf, g, hX, hS, hM, hR⟩ := id I
  obtain ⟨x44, xX, xS, xR, xK, ⟨oa, ob, xO⟩, ⟨lf, xL⟩, xW, xWK, xT, xTx⟩ := id hX
  obtain ⟨⟨a1, a2, a3, mZ⟩, mR, ⟨hd, mH⟩, ⟨mf, mL⟩, mA⟩ := id hM
  obtain ⟨r8, r6, r0, rs, rW, rT, rN, rF⟩ := id hR
  have ex := x_goes xX xS xK hour
  by_cases q : ¬ hour < 0 ∧ hour < 60
  · rw [if_pos q] at ex
    by_cases hw0 : nw = 0
    · have w0 : nI nw = 0 := by rw [hw0]; rfl
      rw [if_pos w0] at ex
      refine ⟨_, h, h, ex, ?_, I, by omega, by omega⟩
      simp [s135_0, s135_1, s135_2, s135_5, s135_6, s135_7, s135_10, s135_11, s135_14, s135_15, s135_16, s135_19, mco mZ.1, m_refusedFor mZ.1, q, w0]
    have hw : 0 < nw := by omega
    have n0 : 0 < nt := by
      by_cases z : nt = 0
      · have := r0.mpr z; omega
      · omega
    have hs0 := rs hw
    have hT := tid_ok n0 r6 hs0
    have hf1 := fun j (hj : j < 8) => (rF hw j hj).1
    have hf2 := fun j (hj : j < 8) => (rF hw j hj).2
    have wne : ¬ nI nw = 0 := nI_ne0 hw (by omega)
    have n6 : ns ≤ 6 := xS.2.2.2.2.2.2
    have hst := st_eq (hk := hk) (sh := sh) (sa := sa) (f34 := f34) (f35 := f35) n0 r6 hs0 rT rN hf1 hf2
    have hstr := fun s (hs : s < 60) => str_eq (sh := sh) (sa := sa) (f34 := f34) (f35 := f35) n0 r6 hs0 rT rN hs
    obtain ⟨s, hs, rfl⟩ := hour_of q
    rw [if_neg wne, hst s hs] at ex
    have em := m_goIn mZ r8 (by omega) rW.hb hT.1 (nI s) (hT.2 s hs)
    have h0 := strM_pos (nI nt) tfm ns f34 f35 (nI s0) (nI s)
    obtain ⟨x, hx⟩ := mgS_sub (ft := aT (TT nw kd wt) (-9)) (law := lw) (str := strM (nI nt) tfm ns f34 f35 (nI s0) (nI s)) 8 hk
    have e : hk &&& (stM nw kd wt (-9) lw hk (nI nt) tfm ns f34 f35 (nI s0) (nI s) ^^^ -1) = goM nw kd wt (-9) lw hk (strM (nI nt) tfm ns f34 f35 (nI s0) (nI s)) := by
      unfold stM
      rw [goM_mgS h0, hx]
      exact goes_eq hk x
    rw [e] at ex
    refine ⟨_, h, h, ex, ?_, I, by omega, by omega⟩
    simp [s135_0, s135_1, s135_2, s135_5, s135_6, s135_7, s135_10, s135_11, s135_14, s135_15, s135_16, s135_19, mco mZ.1, m_refusedFor mZ.1, q, wne, em]
  · rw [if_neg q] at ex
    refine ⟨_, h, h, ex, ?_, I, by omega, by omega⟩
    have em := m_refusedFor mZ.1 hour
    rw [if_neg q] at em
    simp [s135_0, s135_1, s135_2, s135_5, s135_6, s135_7, s135_10, s135_11, s135_14, s135_15, s135_16, s135_19, mco mZ.1, em]
theorem c_late (I : Inv h) (k hour : Int32) : Two h 61 [.ref 1, .int k, .int hour, tw_un, tw_un] 140 [.ref 27, .int k, .int hour] := by
  obtain ⟨nw, nt, s0, ns, nr, hk, lw, fl, tr, tfx, tfm, sw, sh, sa, f34, f35, r1, r2, r3, ft, fo, kd, wt, sz, ln, sf, g, hX, hS, hM, hR⟩ := id I
  obtain ⟨x44, xX, xS, xR, xK, ⟨oa, ob, xO⟩, ⟨lf, xL⟩, xW, xWK, xT, xTx⟩ := id hX
  obtain ⟨⟨a1, a2, a3, mZ⟩, mR, ⟨hd, mH⟩, ⟨mf, mL⟩, mA⟩ := id hM
  obtain ⟨r8, r6, r0, rs, rW, rT, rN, rF⟩ := id hR
  have ew := x_workOf xX xW k
  have em := m_noWork mZ.1 k
  by_cases qk : ¬ k < 0 ∧ k < nI nw
  · obtain ⟨j, hj, rfl⟩ := xWK.isref r8 qk
    obtain ⟨a, wa, _⟩ := xWK.ref r8 hj
    rw [wa] at ew
    rw [decide_eq_true qk] at em
    have hw : 0 < nw := by omega
    have n0 : 0 < nt := by
      by_cases z : nt = 0
      · have := r0.mpr z; omega
      · omega
    have hs0 := rs hw
    have hT := tid_ok n0 r6 hs0
    have hf1 := fun j (hj : j < 8) => (rF hw j hj).1
    have hf2 := fun j (hj : j < 8) => (rF hw j hj).2
    have wne : ¬ nI nw = 0 := nI_ne0 hw (by omega)
    have n6 : ns ≤ 6 := xS.2.2.2.2.2.2
    have hst := st_eq (hk := hk) (sh := sh) (sa := sa) (f34 := f34) (f35 := f35) n0 r6 hs0 rT rN hf1 hf2
    have hstr := fun s (hs : s < 60) => str_eq (sh := sh) (sa := sa) (f34 := f34) (f35 := f35) n0 r6 hs0 rT rN hs
    by_cases q : ¬ hour < 0 ∧ hour < 60
    · obtain ⟨s, hs, rfl⟩ := hour_of q
      have hl := x_late_loop xX xS xK (nI j) hs (s + 1) 0 0 (by omega)
      rw [nI_0] at hl
      have ex : tw_b 61 0 [.ref 1, .int (nI j), .int (nI s), tw_un, tw_un] [] h = some (some (.int (ltS (fun hour => spF ft fo hk (strF (nI nt) tfx ns sh sa (nI s0) hour 0)) (nI j) 0 (s + 1) 0)), h) := by
        simp [s61_0, s61_1, s61_2, s61_5, s61_5n, s61_8, s61_9, s61_10, s61_11, s61_14, s61_17, s61_19, s61_20, s61_21, s61_22, s61_23, s61_27, s61_28, s61_31, s61_32, s61_33, s61_34, s61_37, s61_39, s61_42, s61_43, s61_46, s61_49, s61_50, s61_53, s61_54, s61_55, s61_56, s61_59, s61_62, s61_63, xco xX, ew, x_isHour, tw_bi_0, q, hl]
      rw [ltS_congr hst (nI j) (s + 1) 0 0 (by omega)] at ex
      refine ⟨_, h, _, ex, ?_, Inv.q hX hS hM hR (f := lf) (f' := hrF (stM nw kd wt (-9) lw hk (nI nt) tfm ns f34 f35 (nI s0)) 0 (s + 1) (fset mf (fun _ => 0) 8)) (tw_si h xL.2).symm rfl, by rw [tw_sg1]; omega, by rw [tw_sg2]; omega⟩
      have hg := m_goTo mZ r8 (by omega) rW.hb hT mL hs
      have ev := tw_vi_n (show j < 8 by omega) (by decide)
      have ec := nI_clamp (show j < 2 ^ 31 by omega)
      have hfin : hrF (stM nw kd wt (-9) lw hk (nI nt) tfm ns f34 f35 (nI s0)) 0 (s + 1) (fset mf (fun _ => 0) 8) j = ltS (stM nw kd wt (-9) lw hk (nI nt) tfm ns f34 f35 (nI s0)) (nI j) 0 (s + 1) 0 := by
        rw [hrF_ltS _ (by omega), fset_lt (by omega)]
      simp [s140_0, s140_1, s140_2, s140_5, s140_8, s140_9, s140_10, s140_11, s140_14, s140_17, s140_19, s140_20, s140_21, s140_22, s140_25, s140_26, s140_29, s140_30, s140_31, mco mZ.1, em, m_isHour, tw_bi_0, q, hg, tw_gf, tw_ia, tw_sg, mZ.1, ev, ec, hfin]
    · have ex : tw_b 61 0 [.ref 1, .int (nI j), .int hour, tw_un, tw_un] [] h = some (some (.int (-2)), h) := by
        have eh := x_isHour hour h
        rw [decide_eq_false q] at eh
        simp [s61_0, s61_1, s61_2, s61_5, s61_5n, s61_8, s61_9, s61_10, s61_11, s61_14, s61_17, s61_19, s61_20, s61_21, s61_22, s61_23, s61_27, s61_28, s61_31, s61_32, s61_33, s61_34, s61_37, s61_39, s61_42, s61_43, s61_46, s61_49, s61_50, s61_53, s61_54, s61_55, s61_56, s61_59, s61_62, s61_63, xco xX, ew, eh, tw_bi_0]
      refine ⟨_, h, h, ex, ?_, I, by omega, by omega⟩
      have eh := m_isHour hour h
      rw [decide_eq_false q] at eh
      simp [s140_0, s140_1, s140_2, s140_5, s140_8, s140_9, s140_10, s140_11, s140_14, s140_17, s140_19, s140_20, s140_21, s140_22, s140_25, s140_26, s140_29, s140_30, s140_31, mco mZ.1, em, eh, tw_bi_0]
  · rw [(xWK.null r8 k).mpr qk] at ew
    rw [decide_eq_false qk] at em
    have ex : tw_b 61 0 [.ref 1, .int k, .int hour, tw_un, tw_un] [] h = some (some (.int (-1)), h) := by
      simp [s61_0, s61_1, s61_2, s61_5, s61_5n, s61_8, s61_9, s61_10, s61_11, s61_14, s61_17, s61_19, s61_20, s61_21, s61_22, s61_23, s61_27, s61_28, s61_31, s61_32, s61_33, s61_34, s61_37, s61_39, s61_42, s61_43, s61_46, s61_49, s61_50, s61_53, s61_54, s61_55, s61_56, s61_59, s61_62, s61_63, xco xX, ew]
    refine ⟨_, h, h, ex, ?_, I, by omega, by omega⟩
    simp [s140_0, s140_1, s140_2, s140_5, s140_8, s140_9, s140_10, s140_11, s140_14, s140_17, s140_19, s140_20, s140_21, s140_22, s140_25, s140_26, s140_29, s140_30, s140_31, mco mZ.1, em, tw_bi_0]
theorem c_all (I : Inv h) (hour : Int32) : Two h 62 [.ref 1, .int hour, tw_un] 144 [.ref 27, .int hour, tw_un, tw_un] := by
  obtain ⟨nw, nt, s0, ns, nr, hk, lw, fl, tr, tfx, tfm, sw, sh, sa, f34, f35, r1, r2, r3, ft, fo, kd, wt, sz, ln, sf, g, hX, hS, hM, hR⟩ := id I
  obtain ⟨x44, xX, xS, xR, xK, ⟨oa, ob, xO⟩, ⟨lf, xL⟩, xW, xWK, xT, xTx⟩ := id hX
  obtain ⟨⟨a1, a2, a3, mZ⟩, mR, ⟨hd, mH⟩, ⟨mf, mL⟩, mA⟩ := id hM
  obtain ⟨r8, r6, r0, rs, rW, rT, rN, rF⟩ := id hR
  by_cases q : ¬ hour < 0 ∧ hour < 60
  · by_cases hw0 : nw = 0
    · have w0 : nI nw = 0 := by rw [hw0]; rfl
      have ex := x_all_no xX hour (Or.inr w0)
      rw [if_pos q] at ex
      refine ⟨_, h, h, ex, ?_, I, by omega, by omega⟩
      simp [s144_0, s144_1, s144_2, s144_5, s144_6, s144_7, s144_10, s144_11, s144_12, s144_13, s144_15, s144_17, s144_20, s144_21, s144_22, s144_25, s144_26, s144_29, s144_32, s144_33, s144_34, s144_37, s144_40, s144_42, mco mZ.1, m_refusedFor mZ.1, q, w0]
    have hw : 0 < nw := by omega
    have n0 : 0 < nt := by
      by_cases z : nt = 0
      · have := r0.mpr z; omega
      · omega
    have hs0 := rs hw
    have hT := tid_ok n0 r6 hs0
    have hf1 := fun j (hj : j < 8) => (rF hw j hj).1
    have hf2 := fun j (hj : j < 8) => (rF hw j hj).2
    have wne : ¬ nI nw = 0 := nI_ne0 hw (by omega)
    have n6 : ns ≤ 6 := xS.2.2.2.2.2.2
    have hst := st_eq (hk := hk) (sh := sh) (sa := sa) (f34 := f34) (f35 := f35) n0 r6 hs0 rT rN hf1 hf2
    have hstr := fun s (hs : s < 60) => str_eq (sh := sh) (sa := sa) (f34 := f34) (f35 := f35) n0 r6 hs0 rT rN hs
    obtain ⟨s, hs, rfl⟩ := hour_of q
    have ex := x_all xX xS xK hs wne
    rw [alF_congr hst (60 - s) s (by omega)] at ex
    refine ⟨_, h, h, ex, ?_, I, by omega, by omega⟩
    have em := m_all_hours mZ r8 (by omega) rW.hb hT (nI s) 0 (60 - s) s (by omega)
    simp [s144_0, s144_1, s144_2, s144_5, s144_6, s144_7, s144_10, s144_11, s144_12, s144_13, s144_15, s144_17, s144_20, s144_21, s144_22, s144_25, s144_26, s144_29, s144_32, s144_33, s144_34, s144_37, s144_40, s144_42, mco mZ.1, m_refusedFor mZ.1, q, wne, em]
  · have ex := x_all_no xX hour (Or.inl q)
    rw [if_neg q] at ex
    refine ⟨_, h, h, ex, ?_, I, by omega, by omega⟩
    have em := m_refusedFor mZ.1 hour
    rw [if_neg q] at em
    simp [s144_0, s144_1, s144_2, s144_5, s144_6, s144_7, s144_10, s144_11, s144_12, s144_13, s144_15, s144_17, s144_20, s144_21, s144_22, s144_25, s144_26, s144_29, s144_32, s144_33, s144_34, s144_37, s144_40, s144_42, mco mZ.1, em]
theorem c_alike (I : Inv h) (hour : Int32) : Two h 63 [.ref 1, .int hour, tw_un] 145 [.ref 27, .int hour, tw_un, tw_un] := by
  obtain ⟨nw, nt, s0, ns, nr, hk, lw, fl, tr, tfx, tfm, sw, sh, sa, f34, f35, r1, r2, r3, ft, fo, kd, wt, sz, ln, sf, g, hX, hS, hM, hR⟩ := id I
  obtain ⟨x44, xX, xS, xR, xK, ⟨oa, ob, xO⟩, ⟨lf, xL⟩, xW, xWK, xT, xTx⟩ := id hX
  obtain ⟨⟨a1, a2, a3, mZ⟩, mR, ⟨hd, mH⟩, ⟨mf, mL⟩, mA⟩ := id hM
  obtain ⟨r8, r6, r0, rs, rW, rT, rN, rF⟩ := id hR
  by_cases q : ¬ hour < 0 ∧ hour < 60
  · by_cases hw0 : nw = 0
    · have w0 : nI nw = 0 := by rw [hw0]; rfl
      have ex := x_alike_no xX hour (Or.inr w0)
      rw [if_pos q] at ex
      refine ⟨_, h, h, ex, ?_, I, by omega, by omega⟩
      simp [s145_0, s145_1, s145_2, s145_5, s145_6, s145_7, s145_10, s145_11, s145_12, s145_13, s145_16, s145_17, s145_19, s145_21, s145_24, s145_25, s145_26, s145_29, s145_30, s145_31, s145_34, s145_35, s145_38, s145_41, s145_42, s145_43, s145_46, s145_49, s145_51, mco mZ.1, m_refusedFor mZ.1, q, w0]
    have hw : 0 < nw := by omega
    have n0 : 0 < nt := by
      by_cases z : nt = 0
      · have := r0.mpr z; omega
      · omega
    have hs0 := rs hw
    have hT := tid_ok n0 r6 hs0
    have hf1 := fun j (hj : j < 8) => (rF hw j hj).1
    have hf2 := fun j (hj : j < 8) => (rF hw j hj).2
    have wne : ¬ nI nw = 0 := nI_ne0 hw (by omega)
    have n6 : ns ≤ 6 := xS.2.2.2.2.2.2
    have hst := st_eq (hk := hk) (sh := sh) (sa := sa) (f34 := f34) (f35 := f35) n0 r6 hs0 rT rN hf1 hf2
    have hstr := fun s (hs : s < 60) => str_eq (sh := sh) (sa := sa) (f34 := f34) (f35 := f35) n0 r6 hs0 rT rN hs
    obtain ⟨f', ex⟩ := x_alike xX xS xK xL q wne
    have ecg : akS (fun hour => spF ft fo hk (strF (nI nt) tfx ns sh sa (nI s0) hour 0)) hk hour 0 60 (fset lf (fun _ => 0) 8) = akS (stM nw kd wt (-9) lw hk (nI nt) tfm ns f34 f35 (nI s0)) hk hour 0 60 (fset mf (fun _ => 0) 8) := by
      rw [akS_stp hst hk hour 60 0 _ (by omega)]
      exact akS_congr 60 0 _ _ (fun j hj => by rw [fset_lt hj, fset_lt hj])
    rw [ecg] at ex
    obtain ⟨H1, hH1⟩ : ∃ H1, H1 = tw_set h 26 (iC 8 f') := ⟨_, rfl⟩
    rw [← hH1] at ex
    have gZ : MZ H1 fl (nI nt) nw hk lw (nI s0) (-9) a1 a2 a3 ns (nI nr) tr tfm kd wt f34 f35 := by rw [hH1]; exact mZ.set (by omega)
    have gL : H1.2.2 36 = some (iC 8 mf) := by rw [hH1, tw_sg, if_neg (by decide)]; exact mL
    obtain ⟨f2, hl⟩ := m_alike_hours gZ r8 (by omega) rW.hb hT hour 0 60 0 (fset mf (fun _ => 0) 8) (by omega) (fun j hj => ⟨0, by omega, by rw [fset_lt hj]; rfl⟩)
    rw [nI_0] at hl
    refine ⟨_, H1, _, ex, ?_, Inv.q hX hS hM hR hH1 (f' := f2) rfl, by rw [tw_sg1, hH1, tw_sg1]; omega, by rw [tw_sg2, hH1, tw_sg2]; omega⟩
    simp [s145_0, s145_1, s145_2, s145_5, s145_6, s145_7, s145_10, s145_11, s145_12, s145_13, s145_16, s145_17, s145_19, s145_21, s145_24, s145_25, s145_26, s145_29, s145_30, s145_31, s145_34, s145_35, s145_38, s145_41, s145_42, s145_43, s145_46, s145_49, s145_51, mco gZ.1, m_refusedFor gZ.1, q, wne, m_begin gZ gL, hl]
  · have ex := x_alike_no xX hour (Or.inl q)
    rw [if_neg q] at ex
    refine ⟨_, h, h, ex, ?_, I, by omega, by omega⟩
    have em := m_refusedFor mZ.1 hour
    rw [if_neg q] at em
    simp [s145_0, s145_1, s145_2, s145_5, s145_6, s145_7, s145_10, s145_11, s145_12, s145_13, s145_16, s145_17, s145_19, s145_21, s145_24, s145_25, s145_26, s145_29, s145_30, s145_31, s145_34, s145_35, s145_38, s145_41, s145_42, s145_43, s145_46, s145_49, s145_51, mco mZ.1, em]
end I2
