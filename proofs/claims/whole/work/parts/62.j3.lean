/-! cells, both -/
section L1
variable {h : tw_H}
theorem nI_sml {i n : Nat} (hi : i < n) (hn : n < 2 ^ 31) : ¬ nI i < 0 ∧ nI i < nI n := ⟨nI_pos (by omega), nI_lt hi hn⟩
/-- what follows a change of a row's cells -/
theorem Inv.row {nw nt s0 ns nr : Nat} {hk lw fl tr : Int32} {tfx tfm sw sh sa f34 f35 rw rh ra ft fo kd wt sz ln sf hd : Nat → Int32} {g : Nat → Option Nat} {gs : Nat → Option Nat} {ra' rb' nn : Nat → Nat} (hX : XI h nw nt s0 ns nr hk lw fl tr tfx sw sh sa rw rh ra ft fo kd wt g) (hSo : SIo h sz ln sf gs ra' rb' nn) (hM : MI h nw nt s0 ns nr hk lw fl tr tfm f34 f35 rw rh ra kd wt sz ln sf) (hR : RI nw nt s0 ns nr hk lw tfx tfm sh sa f34 f35 ft fo kd wt) (mH : MH h sz ln sf hd) (fl' b1 b2 b3 : Int32) {o : Nat} (ho : o < 4) (hg : gs o ≠ none) {F sf' hd' : Nat → Int32} (hF : ∀ x, x < nn o → F x = sf' (60 * o + x)) (hs : ∀ k' x, k' < 4 → k' ≠ o → x < 60 → sf' (60 * k' + x) = sf (60 * k' + x)) {h1 h2 : tw_H} (e1 : h1 = tw_set (tw_set h 1 (xC (nI nw) hk lw (nI s0) fl')) (rb' o) (iC (nn o) F)) (e2 : h2 = tw_set (tw_set (tw_set h1 43 (iC 60 hd')) 42 (iC 240 sf')) 27 (mC fl' (nI nt) (nI nw) hk lw (nI s0) (-9) b1 b2 b3 (nI ns) (nI nr) tr)) : Inv h2 ∧ h2.1 = h.1 ∧ h2.2.1 = h.2.1 := by
  have hob : 43 < rb' o ∧ ∃ f, h.2.2 (rb' o) = some (iC (nn o) f) := by
    rcases hSo.2 o ho with ⟨z, _⟩ | ⟨_, _, _, y4, _, _, _, _, ⟨f, y9, _⟩, _⟩
    · exact absurd z hg
    · exact ⟨y4, f, y9⟩
  obtain ⟨ho43, f, hf⟩ := hob
  obtain ⟨H1, hH1⟩ : ∃ H1, H1 = tw_set h 1 (xC (nI nw) hk lw (nI s0) fl') := ⟨_, rfl⟩
  rw [← hH1] at e1
  have o0 : ∀ a, a ≠ 1 → H1.2.2 a = h.2.2 a := fun a ha => by rw [hH1, tw_sg, if_neg ha]
  have o1 : ∀ a, a ≠ rb' o → h1.2.2 a = H1.2.2 a := fun a ha => by rw [e1, tw_sg, if_neg ha]
  have b1' : h1.1 = h.1 := by rw [e1, tw_sg1, hH1, tw_sg1]
  have hX1 := hX.s1 hk lw fl' s0
  rw [← hH1] at hX1
  have hX2 : XI h1 nw nt s0 ns nr hk lw fl' tr tfx sw sh sa rw rh ra ft fo kd wt g := hX1.c2 (by rw [b1', hH1, tw_sg1]; exact Nat.le_refl _) (fun a h1 _ => o1 a (by omega)) (hX1.2.2.2.2.2.2.2.2.1.cell (b := rb' o) (by rw [b1', hH1, tw_sg1]; exact Nat.le_refl _) (by rw [o0 _ (by omega)]; exact hf) (fun a _ _ ha => o1 a ha))
  have gb : h1.2.2 (rb' o) = some (iC (nn o) F) := by rw [e1, tw_sg, if_pos rfl]
  have hS2 : SIo h1 sz ln sf' gs ra' rb' nn := hSo.write (h' := h1) ho hg (by omega) (fun a _ hne => by rw [o1 a hne, o0 a (by omega)]) gb hF hs
  have hM1 : MI h1 nw nt s0 ns nr hk lw fl tr tfm f34 f35 rw rh ra kd wt sz ln sf := hM.congr (fun a k1 k2 => by rw [o1 a (by omega), o0 a (by omega)])
  have mH1 : MH h1 sz ln sf hd := by
    unfold MH at mH ⊢
    rw [o1 40 (by omega), o0 40 (by decide), o1 41 (by omega), o0 41 (by decide), o1 42 (by omega), o0 42 (by decide), o1 43 (by omega), o0 43 (by decide)]
    exact mH
  obtain ⟨h3, hh3⟩ : ∃ h3, h3 = tw_set (tw_set h1 43 (iC 60 hd')) 42 (iC 240 sf') := ⟨_, rfl⟩
  rw [← hh3] at e2
  have o3 : ∀ a, a ≠ 42 ∧ a ≠ 43 → h3.2.2 a = h1.2.2 a := fun a ha => by rw [hh3, tw_sg, if_neg ha.1, tw_sg, if_neg ha.2]
  have hM3 : MI h3 nw nt s0 ns nr hk lw fl tr tfm f34 f35 rw rh ra kd wt sz ln sf' := hM1.mh (hd' := hd') (fun a k1 k2 => o3 a (by omega)) ⟨by rw [o3 40 (by decide)]; exact mH1.1, by rw [o3 41 (by decide)]; exact mH1.2.1, by rw [hh3, tw_sg, if_pos rfl], by rw [hh3, tw_sg, if_neg (by decide), tw_sg, if_pos rfl]⟩
  have hX3 : XI h3 nw nt s0 ns nr hk lw fl' tr tfx sw sh sa rw rh ra ft fo kd wt g := hX2.congr (by rw [hh3]; rfl) (fun a ha => o3 a (by omega))
  have hS3 : SI h3 sz ln sf' := hS2.cls.congr (by rw [hh3]; exact Nat.le_refl _) (o3 2 (by decide)) (fun a k1 _ => o3 a (by omega))
  refine ⟨?_, by rw [e2, tw_sg1, hh3, tw_sg1, tw_sg1, b1'], by rw [e2, tw_sg2, hh3, tw_sg2, tw_sg2, e1, tw_sg2, hH1, tw_sg2]⟩
  rw [e2]
  exact ⟨nw, nt, s0, ns, nr, hk, lw, fl', tr, tfx, tfm, sw, sh, sa, f34, f35, rw, rh, ra, ft, fo, kd, wt, sz, ln, sf', g, hX3.hi (a := 27) (by omega) _, hS3.lo (by omega) (by omega) _, hM3.s27 b1 b2 b3 hk lw fl' tr s0 ns nr (Nat.le_refl _), hR⟩
theorem c_put (I : Inv h) (k i v : Int32) : Two h 90 [.ref 1, .int k, .int i, .int v, tw_un] 166 [.ref 27, .int k, .int i, .int v] := by
  obtain ⟨nw, nt, s0, ns, nr, hk, lw, fl, tr, tfx, tfm, sw, sh, sa, f34, f35, r1, r2, r3, ft, fo, kd, wt, sz, ln, sf, g, hX, hS, hM, hR⟩ := id I
  obtain ⟨x44, xX, xS, xR, xK, ⟨oa, ob, xO⟩, ⟨lf, xL⟩, xW, xWK, xT, xTx⟩ := id hX
  obtain ⟨⟨a1, a2, a3, mZ⟩, mR, ⟨hd, mH⟩, ⟨mf, mL⟩, mA⟩ := id hM
  obtain ⟨r8, r6, r0, rs, rW, rT, rN, rF⟩ := id hR
  obtain ⟨gs, ra', rb', nn, hSo⟩ := hS.opn
  obtain ⟨H1, hH1⟩ : ∃ H1, H1 = tw_set h 1 (xC (nI nw) hk lw (nI s0) 0) := ⟨_, rfl⟩
  have o1 : ∀ a, a ≠ 1 → H1.2.2 a = h.2.2 a := fun a ha => by rw [hH1, tw_sg, if_neg ha]
  have g1 : H1.2.2 1 = some (xC (nI nw) hk lw (nI s0) 0) := by rw [hH1, tw_sg, if_pos rfl]
  have g2 : H1.2.2 2 = some (rC 1 4 gs) := by rw [o1 2 (by decide)]; exact hSo.1
  have es := x_isSheet g1 g2 k
  have er := x_rowOf g1 g2 k
  have en := fun h => m_noSheet k h
  have gM : ∀ fl', (tw_set h 1 (xC (nI nw) hk lw (nI s0) fl')).2.2 27 = some (mC fl (nI nt) (nI nw) hk lw (nI s0) (-9) a1 a2 a3 (nI ns) (nI nr) tr) := fun fl' => by rw [tw_sg, if_neg (by decide)]; exact mZ.1
  have gH : ∀ fl', MH (tw_set h 1 (xC (nI nw) hk lw (nI s0) fl')) sz ln sf hd := fun fl' => by
    unfold MH at mH ⊢
    simp only [tw_sg]
    simpa using mH
  by_cases q : ¬ k < 0 ∧ k < 4
  · rw [decide_eq_true q] at es
    simp only [decide_eq_true q] at en
    obtain ⟨j, hj, rfl⟩ := below_of (N := 4) (by decide) q
    have ev := tw_vi_n (show j < 4 by omega) (by decide)
    have ec := nI_clamp (show j < 2 ^ 31 by omega)
    unfold rwV at er
    rw [if_pos ev, ec] at er
    rcases hSo.2 j hj with ⟨y1, y2⟩ | ⟨y1, y2, y3, y4, y5, y6, y7, y8, ⟨f, y9, y10⟩, y11⟩
    · rw [y1] at er
      simp only [tw_rf] at er
      refine two_fl hX hS hM hR 1 a1 a2 a3 (.int (-11)) ?_ ?_
      · have ef := x_faulted g1 1
        rw [hH1, tw_ss, ← hH1] at ef
        simp [s90_0, s90_1, s90_2, s90_5, s90_6, s90_7, s90_10, s90_13, s90_14, s90_15, s90_16, s90_17, s90_20, s90_20n, s90_22, s90_22n, s90_24, s90_24n, s90_27, s90_28, s90_29, s90_32, s90_33, s90_33n, s90_35, s90_36, s90_37, s90_40, s90_43, s90_44, s90_45, s90_48, s90_49, s90_49n, s90_51, s90_52, s90_53, s90_56, s90_57, tw_sf, xX, tw_fit, ← hH1, xco g1, es, er, tw_bi_0, ef]
      · simp [s166_0, s166_1, s166_4, s166_7, s166_8, s166_9, s166_12, s166_13, s166_14, s166_15, s166_16, s166_19, s166_22, s166_23, s166_24, s166_25, s166_26, s166_29, s166_32, s166_33, s166_34, s166_37, s166_39, s166_40, s166_41, s166_42, s166_43, s166_44, s166_47, s166_48, s166_49, s166_52, s166_53, s166_54, s166_57, s166_58, s166_61, s166_62, s166_63, s166_64, s166_67, s166_68, s166_69, s166_72, s166_73, s166_74, s166_75, s166_76, s166_79, en, tw_bi_0, mco (gM 1), m_noCell0 (gM 1) (gH 1) hj y2, m_failed (gM 1)]
    · rw [y1] at er
      simp only [tw_rf] at er
      have ga : H1.2.2 (ra' j) = some (oC 3 [.int (ln j), .ref (rb' j)]) := by rw [o1 _ (by omega)]; exact y6
      have gb : H1.2.2 (rb' j) = some (iC (nn j) f) := by rw [o1 _ (by omega)]; exact y9
      have a0 : ra' j ≠ 0 := by omega
      have b0 : rb' j ≠ 0 := by omega
      have hco : tw_co H1 (ra' j) = some 3 := by simp [tw_co, ga, a0]
      have ech := x_reaches ga a0 gb i 1
      by_cases q1 : rchB (nn j) i 1 = true
      · rw [q1] at ech
        have q2 := q1
        rw [rch_1 (by omega)] at q2
        obtain ⟨s, hs, rfl⟩ := below_of (show nn j < 2 ^ 31 by omega) (of_decide_eq_true q2)
        have ers := x_rset ga a0 gb b0 hs (by omega) v
        obtain ⟨H2, hH2⟩ : ∃ H2, H2 = tw_set H1 (rb' j) (iC (nn j) (upd f s (ctF (ln j) v))) := ⟨_, rfl⟩
        rw [← hH2] at ers
        have o2 : ∀ a, a ≠ 1 → a ≠ rb' j → H2.2.2 a = h.2.2 a := fun a ha hb => by rw [hH2, tw_sg, if_neg hb, o1 a ha]
        have g43 := mH.2.2.2
        rw [← o2 43 (by decide) (by omega)] at g43
        have g27 := mZ.1
        rw [← o2 27 (by decide) (by omega)] at g27
        have gH2 : MH H2 sz ln sf hd := by
          unfold MH at mH ⊢
          rw [o2 40 (by decide) (by omega), o2 41 (by decide) (by omega), o2 42 (by decide) (by omega), o2 43 (by decide) (by omega)]
          exact mH
        have ix : ∀ x, upd sf (60 * j + s) (ctF (ln j) v) x = if x = 60 * j + s then ctF (ln j) v else sf x := fun x => rfl
        obtain ⟨K1, K2, K3⟩ := Inv.row hX hSo hM hR mH 0 a1 a2 a3 hj (by rw [y1]; exact fun z => by cases z) (F := upd f s (ctF (ln j) v)) (sf' := upd sf (60 * j + s) (ctF (ln j) v)) (hd' := hd) (fun x hx => by
          rw [ix]
          unfold upd
          by_cases z : x = s
          · rw [if_pos z, if_pos (by omega)]
          · rw [if_neg z, if_neg (by omega), y10 x hx]) (fun k' x k1 k2 k3 => by rw [ix, if_neg (by omega)]) (h1 := H2) (by rw [hH2, hH1]) rfl
        rw [tw_si H2 g43] at K1 K2 K3
        refine ⟨.int 1, H2, _, ?_, ?_, K1, by omega, by omega⟩
        · simp [s90_0, s90_1, s90_2, s90_5, s90_6, s90_7, s90_10, s90_13, s90_14, s90_15, s90_16, s90_17, s90_20, s90_20n, s90_22, s90_22n, s90_24, s90_24n, s90_27, s90_28, s90_29, s90_32, s90_33, s90_33n, s90_35, s90_36, s90_37, s90_40, s90_43, s90_44, s90_45, s90_48, s90_49, s90_49n, s90_51, s90_52, s90_53, s90_56, s90_57, tw_sf, xX, tw_fit, ← hH1, xco g1, es, er, tw_bi_0, hco, ech, ers]
        · have enc := m_noCell g27 gH2 hj y8 (by omega) (nI s)
          rw [if_pos q1] at enc
          have evs := tw_vi_n (show 60 * j + s < 240 by omega) (by decide)
          have ecs := nI_clamp (show 60 * j + s < 2 ^ 31 by omega)
          have gM3 : (tw_set H2 42 (iC 240 (upd sf (60 * j + s) (ctF (ln j) v)))).2.2 27 = some (mC fl (nI nt) (nI nw) hk lw (nI s0) (-9) a1 a2 a3 (nI ns) (nI nr) tr) := by rw [tw_sg, if_neg (by decide)]; exact g27
          have erf := m_refused gM3 1
          by_cases p0 : ln j = 0
          · have e1 : ctF (ln j) v = v.toInt8.toInt32 := by unfold ctF; rw [if_pos p0]
            rw [e1] at erf ⊢
            have c3 := mco gM3
            rw [e1] at c3
            simp [s166_0, s166_1, s166_4, s166_7, s166_8, s166_9, s166_12, s166_13, s166_14, s166_15, s166_16, s166_19, s166_22, s166_23, s166_24, s166_25, s166_26, s166_29, s166_32, s166_33, s166_34, s166_37, s166_39, s166_40, s166_41, s166_42, s166_43, s166_44, s166_47, s166_48, s166_49, s166_52, s166_53, s166_54, s166_57, s166_58, s166_61, s166_62, s166_63, s166_64, s166_67, s166_68, s166_69, s166_72, s166_73, s166_74, s166_75, s166_76, s166_79, en, tw_bi_0, mco g27, enc, tw_gf, tw_ia, tw_ix, g27, gH2.1, gH2.2.1, gH2.2.2.1, ev, ec, nI_60, evs, ecs, p0, erf, c3]
          · by_cases p1 : ln j = 1
            · have e1 : ctF (ln j) v = v.toInt16.toInt32 := by unfold ctF; rw [if_neg p0, if_pos p1]
              rw [e1] at erf ⊢
              have c3 := mco gM3
              rw [e1] at c3
              simp [s166_0, s166_1, s166_4, s166_7, s166_8, s166_9, s166_12, s166_13, s166_14, s166_15, s166_16, s166_19, s166_22, s166_23, s166_24, s166_25, s166_26, s166_29, s166_32, s166_33, s166_34, s166_37, s166_39, s166_40, s166_41, s166_42, s166_43, s166_44, s166_47, s166_48, s166_49, s166_52, s166_53, s166_54, s166_57, s166_58, s166_61, s166_62, s166_63, s166_64, s166_67, s166_68, s166_69, s166_72, s166_73, s166_74, s166_75, s166_76, s166_79, en, tw_bi_0, mco g27, enc, tw_gf, tw_ia, tw_ix, g27, gH2.1, gH2.2.1, gH2.2.2.1, ev, ec, nI_60, evs, ecs, p1, erf, c3]
            · have e1 : ctF (ln j) v = v := by unfold ctF; rw [if_neg p0, if_neg p1]
              rw [e1] at erf ⊢
              have c3 := mco gM3
              rw [e1] at c3
              simp [s166_0, s166_1, s166_4, s166_7, s166_8, s166_9, s166_12, s166_13, s166_14, s166_15, s166_16, s166_19, s166_22, s166_23, s166_24, s166_25, s166_26, s166_29, s166_32, s166_33, s166_34, s166_37, s166_39, s166_40, s166_41, s166_42, s166_43, s166_44, s166_47, s166_48, s166_49, s166_52, s166_53, s166_54, s166_57, s166_58, s166_61, s166_62, s166_63, s166_64, s166_67, s166_68, s166_69, s166_72, s166_73, s166_74, s166_75, s166_76, s166_79, en, tw_bi_0, mco g27, enc, tw_gf, tw_ia, tw_ix, g27, gH2.1, gH2.2.1, gH2.2.2.1, ev, ec, nI_60, evs, ecs, p0, p1, erf, c3]
      · have q1' : rchB (nn j) i 1 = false := by simpa using q1
        rw [q1'] at ech
        refine two_fl hX hS hM hR 3 a1 a2 a3 (.int (-13)) ?_ ?_
        · have ef := x_faulted g1 3
          rw [hH1, tw_ss, ← hH1] at ef
          simp [s90_0, s90_1, s90_2, s90_5, s90_6, s90_7, s90_10, s90_13, s90_14, s90_15, s90_16, s90_17, s90_20, s90_20n, s90_22, s90_22n, s90_24, s90_24n, s90_27, s90_28, s90_29, s90_32, s90_33, s90_33n, s90_35, s90_36, s90_37, s90_40, s90_43, s90_44, s90_45, s90_48, s90_49, s90_49n, s90_51, s90_52, s90_53, s90_56, s90_57, tw_sf, xX, tw_fit, ← hH1, xco g1, es, er, tw_bi_0, hco, ech, ef]
        · have enc := m_noCell (gM 3) (gH 3) hj y8 (by omega) i
          rw [if_neg q1] at enc
          simp [s166_0, s166_1, s166_4, s166_7, s166_8, s166_9, s166_12, s166_13, s166_14, s166_15, s166_16, s166_19, s166_22, s166_23, s166_24, s166_25, s166_26, s166_29, s166_32, s166_33, s166_34, s166_37, s166_39, s166_40, s166_41, s166_42, s166_43, s166_44, s166_47, s166_48, s166_49, s166_52, s166_53, s166_54, s166_57, s166_58, s166_61, s166_62, s166_63, s166_64, s166_67, s166_68, s166_69, s166_72, s166_73, s166_74, s166_75, s166_76, s166_79, en, tw_bi_0, mco (gM 3), enc, m_failed (gM 3)]
  · rw [decide_eq_false q] at es
    simp only [decide_eq_false q] at en
    refine two_fl hX hS hM hR 0 a1 a2 a3 (.int (-1)) ?_ ?_
    · simp [s90_0, s90_1, s90_2, s90_5, s90_6, s90_7, s90_10, s90_13, s90_14, s90_15, s90_16, s90_17, s90_20, s90_20n, s90_22, s90_22n, s90_24, s90_24n, s90_27, s90_28, s90_29, s90_32, s90_33, s90_33n, s90_35, s90_36, s90_37, s90_40, s90_43, s90_44, s90_45, s90_48, s90_49, s90_49n, s90_51, s90_52, s90_53, s90_56, s90_57, tw_sf, xX, tw_fit, ← hH1, xco g1, es, tw_bi_0]
    · simp [s166_0, s166_1, s166_4, s166_7, s166_8, s166_9, s166_12, s166_13, s166_14, s166_15, s166_16, s166_19, s166_22, s166_23, s166_24, s166_25, s166_26, s166_29, s166_32, s166_33, s166_34, s166_37, s166_39, s166_40, s166_41, s166_42, s166_43, s166_44, s166_47, s166_48, s166_49, s166_52, s166_53, s166_54, s166_57, s166_58, s166_61, s166_62, s166_63, s166_64, s166_67, s166_68, s166_69, s166_72, s166_73, s166_74, s166_75, s166_76, s166_79, en, tw_bi_0, mco (gM 0), m_refused (gM 0)]
theorem c_cell (I : Inv h) (k i lane : Int32) : Two h 93 [.ref 1, .int k, .int i, .int lane, tw_un, tw_un] 168 [.ref 27, .int k, .int i, .int lane] := by
  obtain ⟨nw, nt, s0, ns, nr, hk, lw, fl, tr, tfx, tfm, sw, sh, sa, f34, f35, r1, r2, r3, ft, fo, kd, wt, sz, ln, sf, g, hX, hS, hM, hR⟩ := id I
  obtain ⟨x44, xX, xS, xR, xK, ⟨oa, ob, xO⟩, ⟨lf, xL⟩, xW, xWK, xT, xTx⟩ := id hX
  obtain ⟨⟨a1, a2, a3, mZ⟩, mR, ⟨hd, mH⟩, ⟨mf, mL⟩, mA⟩ := id hM
  obtain ⟨r8, r6, r0, rs, rW, rT, rN, rF⟩ := id hR
  obtain ⟨gs, ra', rb', nn, hSo⟩ := hS.opn
  obtain ⟨H1, hH1⟩ : ∃ H1, H1 = tw_set h 1 (xC (nI nw) hk lw (nI s0) 0) := ⟨_, rfl⟩
  have o1 : ∀ a, a ≠ 1 → H1.2.2 a = h.2.2 a := fun a ha => by rw [hH1, tw_sg, if_neg ha]
  have g1 : H1.2.2 1 = some (xC (nI nw) hk lw (nI s0) 0) := by rw [hH1, tw_sg, if_pos rfl]
  have g2 : H1.2.2 2 = some (rC 1 4 gs) := by rw [o1 2 (by decide)]; exact hSo.1
  have es := x_isSheet g1 g2 k
  have er := x_rowOf g1 g2 k
  have en := fun h => m_noSheet k h
  have el := fun h => x_isLane lane h
  have em := fun h => m_in2 lane h
  -- the model begins by its fault 0
  have gM : ∀ fl', (tw_set h 1 (xC (nI nw) hk lw (nI s0) fl')).2.2 27 = some (mC fl (nI nt) (nI nw) hk lw (nI s0) (-9) a1 a2 a3 (nI ns) (nI nr) tr) := fun fl' => by rw [tw_sg, if_neg (by decide)]; exact mZ.1
  have start : ∀ fl', tw_b 168 0 [.ref 27, .int k, .int i, .int lane] [] (tw_set h 1 (xC (nI nw) hk lw (nI s0) fl')) = tw_b 168 5 [.ref 27, .int k, .int i, .int lane] [] (tw_set (tw_set h 1 (xC (nI nw) hk lw (nI s0) fl')) 27 (mC 0 (nI nt) (nI nw) hk lw (nI s0) (-9) a1 a2 a3 (nI ns) (nI nr) tr)) := fun fl' => by
    simp [s168_0, s168_1, s168_2, tw_sf, gM fl', tw_fit]
  have gN : ∀ fl', (tw_set (tw_set h 1 (xC (nI nw) hk lw (nI s0) fl')) 27 (mC 0 (nI nt) (nI nw) hk lw (nI s0) (-9) a1 a2 a3 (nI ns) (nI nr) tr)).2.2 27 = some (mC 0 (nI nt) (nI nw) hk lw (nI s0) (-9) a1 a2 a3 (nI ns) (nI nr) tr) := fun fl' => by rw [tw_sg, if_pos rfl]
  have gH : ∀ fl', MH (tw_set (tw_set h 1 (xC (nI nw) hk lw (nI s0) fl')) 27 (mC 0 (nI nt) (nI nw) hk lw (nI s0) (-9) a1 a2 a3 (nI ns) (nI nr) tr)) sz ln sf hd := fun fl' => by
    unfold MH at mH ⊢
    simp only [tw_sg]
    simpa using mH
  by_cases q : (¬ k < 0 ∧ k < 4) ∧ (¬ lane < 0 ∧ lane < 3)
  · rw [decide_eq_true q.1] at es
    simp only [decide_eq_true q.1] at en
    simp only [decide_eq_true q.2] at el em
    obtain ⟨j, hj, rfl⟩ := below_of (N := 4) (by decide) q.1
    have ev := tw_vi_n (show j < 4 by omega) (by decide)
    have ec := nI_clamp (show j < 2 ^ 31 by omega)
    unfold rwV at er
    rw [if_pos ev, ec] at er
    rcases hSo.2 j hj with ⟨y1, y2⟩ | ⟨y1, y2, y3, y4, y5, y6, y7, y8, ⟨f, y9, y10⟩, y11⟩
    · rw [y1] at er
      simp only [tw_rf] at er
      refine two_fl hX hS hM hR 1 a1 a2 a3 (.long (-9223372036854775808)) ?_ ?_
      · simp [s93_0, s93_1, s93_2, s93_5, s93_6, s93_7, s93_10, s93_13, s93_14, s93_17, s93_20, s93_23, s93_24, s93_25, s93_26, s93_29, s93_29n, s93_31, s93_31n, s93_33, s93_34, s93_35, s93_36, s93_36n, s93_39, s93_39m, s93_41, s93_41n, s93_43, s93_43n, s93_46, s93_48, s93_51, s93_52, s93_54, s93_57, s93_60, s93_61, s93_61n, s93_63, s93_64, s93_67, s93_68, tw_sf, xX, tw_fit, ← hH1, xco g1, es, er, el, tw_bi_0, x_fault0, g1]
        rw [hH1, tw_ss]
      · rw [start 1]
        obtain ⟨G, hG⟩ : ∃ G, G = tw_set (tw_set h 1 (xC (nI nw) hk lw (nI s0) 1)) 27 (mC 0 (nI nt) (nI nw) hk lw (nI s0) (-9) a1 a2 a3 (nI ns) (nI nr) tr) := ⟨_, rfl⟩
        have gN := gN 1
        have gH := gH 1
        rw [← hG] at gN gH ⊢
        have efl := m_failedLong gN 1
        rw [hG, tw_ss, ← hG] at efl
        simp [s168_0, s168_1, s168_2, s168_5, s168_6, s168_9, s168_12, s168_13, s168_14, s168_15, s168_18, s168_21, s168_24, s168_27, s168_28, s168_29, s168_32, s168_33, s168_34, s168_37, s168_38, s168_41, s168_42, s168_43, s168_44, s168_47, s168_48, s168_49, s168_52, s168_53, s168_54, s168_55, s168_56, s168_59, s168_62, s168_63, s168_64, s168_65, s168_66, s168_69, s168_72, s168_75, s168_76, s168_79, s168_81, s168_82, s168_83, s168_84, s168_85, s168_86, s168_87, en, em, tw_bi_0, mco gN, tw_gf, tw_ia, gN, gH.1, ev, ec, y2, m_noCell0 gN gH hj y2, efl]
    · rw [y1] at er
      simp only [tw_rf] at er
      have ga : H1.2.2 (ra' j) = some (oC 3 [.int (ln j), .ref (rb' j)]) := by rw [o1 _ (by omega)]; exact y6
      have gb : H1.2.2 (rb' j) = some (iC (nn j) f) := by rw [o1 _ (by omega)]; exact y9
      have a0 : ra' j ≠ 0 := by omega
      have b0 : rb' j ≠ 0 := by omega
      have hco : tw_co H1 (ra' j) = some 3 := by simp [tw_co, ga, a0]
      have efc := x_fault ga a0 gb lane i 1
      have e0 : ¬ nI (nn j) < 0 := nI_pos (by omega)
      have n10 : ¬ (1 : Int32) < 0 := by decide
      by_cases p1 : ln j = lane
      · by_cases q1 : rchB (nn j) i 1 = true
        · have ef0 : fcF (ln j) (nn j) lane i 1 = 0 := by unfold fcF; rw [if_pos p1, if_neg n10, if_pos q1]
          rw [ef0] at efc
          have q2 := q1
          rw [rch_1 (by omega)] at q2
          obtain ⟨s, hs, rfl⟩ := below_of (show nn j < 2 ^ 31 by omega) (of_decide_eq_true q2)
          have eg := x_get ga a0 gb (by omega) (nI s)
          rw [atF_n hs (by omega), y10 s hs] at eg
          refine two_fl hX hS hM hR 0 a1 a2 a3 (.long (sf (60 * j + s)).toInt64) ?_ ?_
          · simp [s93_0, s93_1, s93_2, s93_5, s93_6, s93_7, s93_10, s93_13, s93_14, s93_17, s93_20, s93_23, s93_24, s93_25, s93_26, s93_29, s93_29n, s93_31, s93_31n, s93_33, s93_34, s93_35, s93_36, s93_36n, s93_39, s93_39m, s93_41, s93_41n, s93_43, s93_43n, s93_46, s93_48, s93_51, s93_52, s93_54, s93_57, s93_60, s93_61, s93_61n, s93_63, s93_64, s93_67, s93_68, tw_sf, xX, tw_fit, ← hH1, xco g1, es, er, el, tw_bi_0, efc, hco, eg]
          · rw [start 0]
            obtain ⟨G, hG⟩ : ∃ G, G = tw_set (tw_set h 1 (xC (nI nw) hk lw (nI s0) 0)) 27 (mC 0 (nI nt) (nI nw) hk lw (nI s0) (-9) a1 a2 a3 (nI ns) (nI nr) tr) := ⟨_, rfl⟩
            have gN := gN 0
            have gH := gH 0
            rw [← hG] at gN gH ⊢
            have enc := m_noCell gN gH hj y8 (by omega) (nI s)
            rw [if_pos q1] at enc
            have evs := tw_vi_n (show 60 * j + s < 240 by omega) (by decide)
            have ecs := nI_clamp (show 60 * j + s < 2 ^ 31 by omega)
            simp [s168_0, s168_1, s168_2, s168_5, s168_6, s168_9, s168_12, s168_13, s168_14, s168_15, s168_18, s168_21, s168_24, s168_27, s168_28, s168_29, s168_32, s168_33, s168_34, s168_37, s168_38, s168_41, s168_42, s168_43, s168_44, s168_47, s168_48, s168_49, s168_52, s168_53, s168_54, s168_55, s168_56, s168_59, s168_62, s168_63, s168_64, s168_65, s168_66, s168_69, s168_72, s168_75, s168_76, s168_79, s168_81, s168_82, s168_83, s168_84, s168_85, s168_86, s168_87, en, em, tw_bi_0, mco gN, tw_gf, tw_ia, gN, gH.1, gH.2.1, gH.2.2.1, ev, ec, y8, e0, p1, enc, nI_60, evs, ecs]
        · have ef0 : fcF (ln j) (nn j) lane i 1 = 3 := by unfold fcF; rw [if_pos p1, if_neg n10, if_neg q1]
          rw [ef0] at efc
          refine two_fl hX hS hM hR 3 a1 a2 a3 (.long (-9223372036854775808)) ?_ ?_
          · simp [s93_0, s93_1, s93_2, s93_5, s93_6, s93_7, s93_10, s93_13, s93_14, s93_17, s93_20, s93_23, s93_24, s93_25, s93_26, s93_29, s93_29n, s93_31, s93_31n, s93_33, s93_34, s93_35, s93_36, s93_36n, s93_39, s93_39m, s93_41, s93_41n, s93_43, s93_43n, s93_46, s93_48, s93_51, s93_52, s93_54, s93_57, s93_60, s93_61, s93_61n, s93_63, s93_64, s93_67, s93_68, tw_sf, xX, tw_fit, ← hH1, xco g1, es, er, el, tw_bi_0, efc, g1]
            rw [hH1, tw_ss]
          · rw [start 3]
            obtain ⟨G, hG⟩ : ∃ G, G = tw_set (tw_set h 1 (xC (nI nw) hk lw (nI s0) 3)) 27 (mC 0 (nI nt) (nI nw) hk lw (nI s0) (-9) a1 a2 a3 (nI ns) (nI nr) tr) := ⟨_, rfl⟩
            have gN := gN 3
            have gH := gH 3
            rw [← hG] at gN gH ⊢
            have efl := m_failedLong gN 3
            rw [hG, tw_ss, ← hG] at efl
            have enc := m_noCell gN gH hj y8 (by omega) i
            rw [if_neg q1] at enc
            simp [s168_0, s168_1, s168_2, s168_5, s168_6, s168_9, s168_12, s168_13, s168_14, s168_15, s168_18, s168_21, s168_24, s168_27, s168_28, s168_29, s168_32, s168_33, s168_34, s168_37, s168_38, s168_41, s168_42, s168_43, s168_44, s168_47, s168_48, s168_49, s168_52, s168_53, s168_54, s168_55, s168_56, s168_59, s168_62, s168_63, s168_64, s168_65, s168_66, s168_69, s168_72, s168_75, s168_76, s168_79, s168_81, s168_82, s168_83, s168_84, s168_85, s168_86, s168_87, en, em, tw_bi_0, mco gN, tw_gf, tw_ia, gN, gH.1, gH.2.1, ev, ec, y8, e0, p1, enc, efl]
      · have ef0 : fcF (ln j) (nn j) lane i 1 = 2 := by unfold fcF; rw [if_neg p1]
        rw [ef0] at efc
        refine two_fl hX hS hM hR 2 a1 a2 a3 (.long (-9223372036854775808)) ?_ ?_
        · simp [s93_0, s93_1, s93_2, s93_5, s93_6, s93_7, s93_10, s93_13, s93_14, s93_17, s93_20, s93_23, s93_24, s93_25, s93_26, s93_29, s93_29n, s93_31, s93_31n, s93_33, s93_34, s93_35, s93_36, s93_36n, s93_39, s93_39m, s93_41, s93_41n, s93_43, s93_43n, s93_46, s93_48, s93_51, s93_52, s93_54, s93_57, s93_60, s93_61, s93_61n, s93_63, s93_64, s93_67, s93_68, tw_sf, xX, tw_fit, ← hH1, xco g1, es, er, el, tw_bi_0, efc, g1]
          rw [hH1, tw_ss]
        · rw [start 2]
          obtain ⟨G, hG⟩ : ∃ G, G = tw_set (tw_set h 1 (xC (nI nw) hk lw (nI s0) 2)) 27 (mC 0 (nI nt) (nI nw) hk lw (nI s0) (-9) a1 a2 a3 (nI ns) (nI nr) tr) := ⟨_, rfl⟩
          have gN := gN 2
          have gH := gH 2
          rw [← hG] at gN gH ⊢
          have efl := m_failedLong gN 2
          rw [hG, tw_ss, ← hG] at efl
          simp [s168_0, s168_1, s168_2, s168_5, s168_6, s168_9, s168_12, s168_13, s168_14, s168_15, s168_18, s168_21, s168_24, s168_27, s168_28, s168_29, s168_32, s168_33, s168_34, s168_37, s168_38, s168_41, s168_42, s168_43, s168_44, s168_47, s168_48, s168_49, s168_52, s168_53, s168_54, s168_55, s168_56, s168_59, s168_62, s168_63, s168_64, s168_65, s168_66, s168_69, s168_72, s168_75, s168_76, s168_79, s168_81, s168_82, s168_83, s168_84, s168_85, s168_86, s168_87, en, em, tw_bi_0, mco gN, tw_gf, tw_ia, gN, gH.1, gH.2.1, ev, ec, y8, e0, p1, efl]
  · refine two_fl hX hS hM hR 0 a1 a2 a3 (.long (-9223372036854775808)) ?_ ?_
    · by_cases q1 : ¬ k < 0 ∧ k < 4
      · rw [decide_eq_true q1] at es
        simp only [decide_eq_false (fun z => q ⟨q1, z⟩)] at el
        simp [s93_0, s93_1, s93_2, s93_5, s93_6, s93_7, s93_10, s93_13, s93_14, s93_17, s93_20, s93_23, s93_24, s93_25, s93_26, s93_29, s93_29n, s93_31, s93_31n, s93_33, s93_34, s93_35, s93_36, s93_36n, s93_39, s93_39m, s93_41, s93_41n, s93_43, s93_43n, s93_46, s93_48, s93_51, s93_52, s93_54, s93_57, s93_60, s93_61, s93_61n, s93_63, s93_64, s93_67, s93_68, tw_sf, xX, tw_fit, ← hH1, xco g1, es, el, tw_bi_0]
      · rw [decide_eq_false q1] at es
        simp [s93_0, s93_1, s93_2, s93_5, s93_6, s93_7, s93_10, s93_13, s93_14, s93_17, s93_20, s93_23, s93_24, s93_25, s93_26, s93_29, s93_29n, s93_31, s93_31n, s93_33, s93_34, s93_35, s93_36, s93_36n, s93_39, s93_39m, s93_41, s93_41n, s93_43, s93_43n, s93_46, s93_48, s93_51, s93_52, s93_54, s93_57, s93_60, s93_61, s93_61n, s93_63, s93_64, s93_67, s93_68, tw_sf, xX, tw_fit, ← hH1, xco g1, es, tw_bi_0]
    · rw [start 0]
      by_cases q1 : ¬ k < 0 ∧ k < 4
      · simp only [decide_eq_true q1] at en
        simp only [decide_eq_false (fun z => q ⟨q1, z⟩)] at em
        simp [s168_0, s168_1, s168_2, s168_5, s168_6, s168_9, s168_12, s168_13, s168_14, s168_15, s168_18, s168_21, s168_24, s168_27, s168_28, s168_29, s168_32, s168_33, s168_34, s168_37, s168_38, s168_41, s168_42, s168_43, s168_44, s168_47, s168_48, s168_49, s168_52, s168_53, s168_54, s168_55, s168_56, s168_59, s168_62, s168_63, s168_64, s168_65, s168_66, s168_69, s168_72, s168_75, s168_76, s168_79, s168_81, s168_82, s168_83, s168_84, s168_85, s168_86, s168_87, s162_0, s162_3, en, em, tw_bi_0]
      · simp only [decide_eq_false q1] at en
        simp [s168_0, s168_1, s168_2, s168_5, s168_6, s168_9, s168_12, s168_13, s168_14, s168_15, s168_18, s168_21, s168_24, s168_27, s168_28, s168_29, s168_32, s168_33, s168_34, s168_37, s168_38, s168_41, s168_42, s168_43, s168_44, s168_47, s168_48, s168_49, s168_52, s168_53, s168_54, s168_55, s168_56, s168_59, s168_62, s168_63, s168_64, s168_65, s168_66, s168_69, s168_72, s168_75, s168_76, s168_79, s168_81, s168_82, s168_83, s168_84, s168_85, s168_86, s168_87, s162_0, s162_3, en, tw_bi_0]
end L1
