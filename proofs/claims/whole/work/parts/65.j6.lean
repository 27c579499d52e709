/-! towns, both -/
theorem twP_two {f : Nat → Int32} {i n : Nat} (A A' B B' C C' : Nat → Int32) : (∀ q, twP (cdK f i n) n A B C = .inl q → twP (cdK f i n) n A' B' C' = .inl q) ∧ (∀ r, twP (cdK f i n) n A B C = .inr r → ∃ A3 B3 C3, twP (cdK f i n) n A' B' C' = .inr (r.1, r.2.1, A3, B3, C3) ∧ 0 < r.1 ∧ r.1 ≤ 6 ∧ 0 < r.2.1 ∧ r.2.1 ≤ 8 ∧ (∀ j, j < r.1 → r.2.2.1 j = A3 j) ∧ ∀ j, j < r.2.1 → r.2.2.2.1 j = B3 j ∧ r.2.2.2.2 j = C3 j ∧ (r.2.2.2.1 j = 0 ∨ r.2.2.2.1 j = 1 ∨ r.2.2.2.1 j = 2)) := by
  unfold twP
  by_cases q1 : cdK f i n 0 = 113
  · have hp1 := cdK_lt q1 (by decide)
    rw [if_pos q1, if_pos q1]
    have t2 := tdP_two (K := cdK f i n) 6 0 1 A A' (fun j hj => by omega)
    have tl := tdP_le (f := f) (i := i) (n := n) 6 0 1 A (by omega)
    cases e1 : tdP (cdK f i n) 6 0 1 A with
    | inl q =>
      rw [t2.1 q e1]
      exact ⟨fun q h => h, fun r h => by (cases h)⟩
    | inr r =>
      obtain ⟨A3, e2, e3⟩ := t2.2 r e1
      obtain ⟨_, l2, l3, l4⟩ := tl.2 r e1
      rw [e2]
      simp only
      have w2 := wkP_two (K := cdK f i n) (n := n) 8 0 r.2.1 B B' C C' (fun j hj => by omega)
      cases e4 : wkP (cdK f i n) n 8 0 r.2.1 B C with
      | inl q =>
        rw [w2.1 q e4]
        exact ⟨fun q h => h, fun r h => by (cases h)⟩
      | inr s =>
        obtain ⟨_, k2, k3, B3, C3, e5, e6⟩ := w2.2 s e4
        rw [e5]
        refine ⟨fun q h => by (cases h), fun r' h => ?_⟩
        cases h
        exact ⟨A3, B3, C3, rfl, l4 (by omega), by simp only; omega, k3 (by omega), by simp only; omega, e3, e6⟩
  · rw [if_neg q1, if_neg q1]
    exact ⟨fun q h => h, fun r h => by (cases h)⟩
theorem TT_congr {nw : Nat} {kd wt kd' wt' : Nat → Int32} (e : ∀ j, j < nw → kd j = kd' j ∧ wt j = wt' j) : TT nw kd wt = TT nw kd' wt' := by
  funext k
  unfold TT
  by_cases q : k < nw
  · rw [if_pos q, if_pos q, (e k q).1, (e k q).2]
  · rw [if_neg q, if_neg q]
theorem Wn_all {nw : Nat} (h : nw ≤ 8) : Wn nw (bitI (nI nw) - 1) := by
  have : ∀ w : Fin 9, bitI (nI w.1) - 1 = nI (2 ^ w.1 - 1) := by decide +kernel
  have hp : 0 < 2 ^ nw := Nat.pow_pos (by decide)
  exact ⟨2 ^ nw - 1, by omega, this ⟨nw, by omega⟩⟩
section O1
variable {h : tw_H}
/-- a text that is not taken -/
theorem Inv.txt {nw nt s0 ns nr : Nat} {hk lw fl tr : Int32} {tfx tfm sw sh sa f34 f35 rw rh ra ft fo kd wt sz ln sf : Nat → Int32} {g : Nat → Option Nat} (hX : XI h nw nt s0 ns nr hk lw fl tr tfx sw sh sa rw rh ra ft fo kd wt g) (hS : SI h sz ln sf) (hM : MI h nw nt s0 ns nr hk lw fl tr tfm f34 f35 rw rh ra kd wt sz ln sf) (hR : RI nw nt s0 ns nr hk lw tfx tfm sh sa f34 f35 ft fo kd wt) {ti wo b1 b2 b3 : Int32} {p b i n : Nat} {A B C A' B' C' : Nat → Int32} {h1 h2 : tw_H} (e1 : h1 = xt (tw_set h 1 (xC (nI nw) hk lw (nI s0) 0)) ti wo p b i n A B C) (e2 : h2 = mt h1 (mC 0 (nI nt) (nI nw) hk lw (nI s0) (-9) b1 b2 b3 (nI ns) (nI nr) tr) A' B' C') : Inv h2 ∧ h2.1 = h.1 ∧ h2.2.1 = h.2.1 := by
  obtain ⟨H1, hH1⟩ : ∃ H1, H1 = tw_set h 1 (xC (nI nw) hk lw (nI s0) 0) := ⟨_, rfl⟩
  have hX1 := hX.s1 hk lw 0 s0
  have hS1 := hS.lo (a := 1) (by omega) (by omega) (xC (nI nw) hk lw (nI s0) 0)
  have hM1 := hM.lo (a := 1) (by omega) (xC (nI nw) hk lw (nI s0) 0)
  rw [← hH1] at hX1 hS1 hM1 e1
  have o1 : ∀ a, a < 3 ∨ 6 < a → h1.2.2 a = H1.2.2 a := fun a ha => by rw [e1, xt_o ha]
  have b11 : h1.1 = H1.1 := by rw [e1]; rfl
  have hX2 : XI h1 nw nt s0 ns nr hk lw 0 tr tfx sw sh sa rw rh ra ft fo kd wt g := by
    obtain ⟨x1, x2, x3, x4, x5, ⟨oa, ob, x6⟩, ⟨lf, x7⟩, x8, x9, x10, _⟩ := hX1
    refine ⟨by omega, by rw [o1 1 (by omega)]; exact x2, ?_, ?_, ?_, ⟨oa, ob, ?_⟩, ⟨lf, ?_⟩, by rw [o1 18 (by omega)]; exact x8, x9.congr (by omega) (fun a h1 _ => o1 a (by omega)), by rw [o1 7 (by omega)]; exact x10, ⟨ti, wo, nI p, nI i, nI n, .ref b, A, B, C, by rw [e1]; exact xt_3, by rw [e1]; exact xt_4, by rw [e1]; exact xt_5, by rw [e1]; exact xt_6⟩⟩
    · unfold XS at x3 ⊢; rw [o1 8 (by omega), o1 13 (by omega), o1 9 (by omega), o1 10 (by omega), o1 11 (by omega), o1 12 (by omega)]; exact x3
    · unfold XR at x4 ⊢; rw [o1 14 (by omega), o1 15 (by omega), o1 16 (by omega), o1 17 (by omega)]; exact x4
    · unfold XK at x5 ⊢; rw [o1 19 (by omega), o1 20 (by omega), o1 21 (by omega)]; exact x5
    · unfold XK at x6 ⊢; rw [o1 22 (by omega), o1 23 (by omega), o1 24 (by omega)]; exact x6
    · unfold XL at x7 ⊢; rw [o1 25 (by omega), o1 26 (by omega)]; exact x7
  have hS2 : SI h1 sz ln sf := hS1.congr (by omega) (o1 2 (by omega)) (fun a k1 _ => o1 a (by omega))
  have hM2 : MI h1 nw nt s0 ns nr hk lw fl tr tfm f34 f35 rw rh ra kd wt sz ln sf := hM1.congr (fun a k1 k2 => o1 a (by omega))
  have o2 : ∀ a, a ≠ 27 ∧ a ≠ 31 ∧ a ≠ 32 ∧ a ≠ 33 → h2.2.2 a = h1.2.2 a := fun a ha => by rw [e2, mt_o ha]
  have b21 : h2.1 = h1.1 := by rw [e2]; rfl
  refine ⟨⟨nw, nt, s0, ns, nr, hk, lw, 0, tr, tfx, tfm, sw, sh, sa, f34, f35, rw, rh, ra, ft, fo, kd, wt, sz, ln, sf, g, hX2.congr b21.symm (fun a ha => o2 a (by omega)), hS2.congr (by omega) (o2 2 (by decide)) (fun a k1 _ => o2 a (by omega)), ?_, hR⟩, by rw [b21, b11, hH1, tw_sg1], by rw [e2, e1, hH1]; rfl⟩
  obtain ⟨⟨c1, c2, c3, m1⟩, m2, ⟨hd, m3⟩, ⟨f, m4⟩, _⟩ := hM2
  refine ⟨⟨b1, b2, b3, by rw [e2]; exact mt_27, by rw [o2 28 (by decide)]; exact m1.2.1, by rw [o2 29 (by decide)]; exact m1.2.2.1, by rw [o2 30 (by decide)]; exact m1.2.2.2.1, by rw [o2 34 (by decide)]; exact m1.2.2.2.2.1, by rw [o2 35 (by decide)]; exact m1.2.2.2.2.2⟩, ?_, ⟨hd, ?_⟩, ⟨f, by rw [o2 36 (by decide)]; exact m4⟩, A', B', C', by rw [e2]; exact mt_31, by rw [e2]; exact mt_32, by rw [e2]; exact mt_33⟩
  · unfold MR at m2 ⊢; rw [o2 37 (by decide), o2 38 (by decide), o2 39 (by decide)]; exact m2
  · unfold MH at m3 ⊢; rw [o2 40 (by decide), o2 41 (by decide), o2 42 (by decide), o2 43 (by decide)]; exact m3
theorem c_town (I : Inv h) (k lane i n : Int32) : Two h 7 [.ref 1, .int k, .int lane, .int i, .int n, tw_un, tw_un] 109 [.ref 27, .int k, .int lane, .int i, .int n, tw_un, tw_un] := by
  obtain ⟨nw, nt, s0, ns, nr, hk, lw, fl, tr, tfx, tfm, sw, sh, sa, f34, f35, r1, r2, r3, ft, fo, kd, wt, sz, ln, sf, g, hX, hS, hM, hR⟩ := id I
  obtain ⟨x44, xX, xS, xR, xK, ⟨oa, ob, xO⟩, ⟨lf, xL⟩, xW, xWK, xT, xTx⟩ := id hX
  obtain ⟨⟨a1, a2, a3, mZ⟩, mR, ⟨hd, mH⟩, ⟨mf, mL⟩, mA⟩ := id hM
  obtain ⟨r8, r6, r0, rs, rW, rT, rN, rF⟩ := id hR
  obtain ⟨gs, ra', rb', nn, hSo⟩ := hS.opn
  obtain ⟨H1, hH1⟩ : ∃ H1, H1 = tw_set h 1 (xC (nI nw) hk lw (nI s0) 0) := ⟨_, rfl⟩
  have o1 : ∀ a, a ≠ 1 → H1.2.2 a = h.2.2 a := fun a ha => by rw [hH1, tw_sg, if_neg ha]
  have g1 : H1.2.2 1 = some (xC (nI nw) hk lw (nI s0) 0) := by rw [hH1, tw_sg, if_pos rfl]
  have g2 : H1.2.2 2 = some (rC 1 4 gs) := by rw [o1 2 (by decide)]; exact hSo.1
  have es := x_isSheet g1 g2 k
  have er := x_rowOf g1 g2 k
  have en := fun h => m_noSheet k h
  have el := fun h => x_isLane lane h
  have em := fun h => m_in2 lane h
  have gM : ∀ fl', (tw_set h 1 (xC (nI nw) hk lw (nI s0) fl')).2.2 27 = some (mC fl (nI nt) (nI nw) hk lw (nI s0) (-9) a1 a2 a3 (nI ns) (nI nr) tr) := fun fl' => by rw [tw_sg, if_neg (by decide)]; exact mZ.1
  have gH : ∀ fl', MH (tw_set h 1 (xC (nI nw) hk lw (nI s0) fl')) sz ln sf hd := fun fl' => by
    unfold MH at mH ⊢
    simp only [tw_sg]
    simpa using mH
  by_cases q : ¬ k < 0 ∧ k < 4
  · rw [decide_eq_true q] at es
    simp only [decide_eq_true q] at en
    by_cases q1 : ¬ lane < 0 ∧ lane < 3
    · simp only [decide_eq_true q1] at el em
      obtain ⟨j, hj, rfl⟩ := below_of (N := 4) (by decide) q
      have ev := tw_vi_n (show j < 4 by omega) (by decide)
      have ec := nI_clamp (show j < 2 ^ 31 by omega)
      unfold rwV at er
      rw [if_pos ev, ec] at er
      rcases hSo.2 j hj with ⟨y1, y2⟩ | ⟨y1, y2, y3, y4, y5, y6, y7, y8, ⟨f, y9, y10⟩, y11⟩
      · rw [y1] at er
        simp only [tw_rf] at er
        refine two_fl hX hS hM hR 1 a1 a2 a3 (.int (-11)) ?_ ?_
        · have ef := x_faulted g1 1
          rw [hH1, tw_ss, ← hH1] at ef
          simp [s7_0, s7_1, s7_2, s7_5, s7_6, s7_7, s7_10, s7_13, s7_14, s7_15, s7_16, s7_19, s7_22, s7_24, s7_25, s7_26, s7_27, s7_30, s7_30n, s7_32, s7_32n, s7_34, s7_35, s7_36, s7_38, s7_38n, s7_41, s7_41m, s7_43, s7_43n, s7_45, s7_45n, s7_48, s7_50, s7_53, s7_54, s7_56, s7_59, s7_60, s7_61, s7_64, s7_64n, s7_66, s7_69, s7_70, s7_72, s7_75, s7_78, s7_80, s7_81, s7_84, s7_87, s7_88, s7_89, s7_90, s7_93, s7_94, s7_97, tw_sf, xX, tw_fit, ← hH1, xco g1, es, el, tw_bi_0, er, x_fault0, ef]
        · simp [s109_0, s109_1, s109_4, s109_7, s109_8, s109_9, s109_12, s109_13, s109_14, s109_15, s109_16, s109_19, s109_22, s109_25, s109_26, s109_28, s109_31, s109_32, s109_33, s109_34, s109_35, s109_36, s109_38, s109_39, s109_42, s109_44, s109_46, s109_49, s109_51, s109_52, s109_53, s109_55, s109_56, s109_57, s109_58, s109_59, s109_61, s109_64, s109_67, s109_68, s109_70, s109_71, s109_74, s109_75, s109_78, en, em, tw_bi_0, mco (gM 1), m_barred0 (gM 1) (gH 1) hj y2]
      · rw [y1] at er
        simp only [tw_rf] at er
        have ga : H1.2.2 (ra' j) = some (oC 3 [.int (ln j), .ref (rb' j)]) := by rw [o1 _ (by omega)]; exact y6
        have gb : H1.2.2 (rb' j) = some (iC (nn j) f) := by rw [o1 _ (by omega)]; exact y9
        have a0 : ra' j ≠ 0 := by omega
        have efc := x_fault ga a0 gb lane i n
        have bad : ∀ c : Int32, ¬ c = 0 → (-10 - c : Int32) < 0 → fcF (ln j) (nn j) lane i n = c → Two h 7 [.ref 1, .int (nI j), .int lane, .int i, .int n, tw_un, tw_un] 109 [.ref 27, .int (nI j), .int lane, .int i, .int n, tw_un, tw_un] := fun c hc hlt hfc => by
          rw [hfc] at efc
          have ef := x_faulted g1 c
          rw [hH1, tw_ss, ← hH1] at ef
          have emb := m_barred (gM c) (gH c) hj y8 (by omega) lane i n
          rw [hfc, if_neg hc] at emb
          refine two_fl hX hS hM hR c a1 a2 a3 (.int (-10 - c)) ?_ ?_
          · simp [s7_0, s7_1, s7_2, s7_5, s7_6, s7_7, s7_10, s7_13, s7_14, s7_15, s7_16, s7_19, s7_22, s7_24, s7_25, s7_26, s7_27, s7_30, s7_30n, s7_32, s7_32n, s7_34, s7_35, s7_36, s7_38, s7_38n, s7_41, s7_41m, s7_43, s7_43n, s7_45, s7_45n, s7_48, s7_50, s7_53, s7_54, s7_56, s7_59, s7_60, s7_61, s7_64, s7_64n, s7_66, s7_69, s7_70, s7_72, s7_75, s7_78, s7_80, s7_81, s7_84, s7_87, s7_88, s7_89, s7_90, s7_93, s7_94, s7_97, tw_sf, xX, tw_fit, ← hH1, xco g1, es, el, tw_bi_0, er, efc, hc, ef]
          · simp [s109_0, s109_1, s109_4, s109_7, s109_8, s109_9, s109_12, s109_13, s109_14, s109_15, s109_16, s109_19, s109_22, s109_25, s109_26, s109_28, s109_31, s109_32, s109_33, s109_34, s109_35, s109_36, s109_38, s109_39, s109_42, s109_44, s109_46, s109_49, s109_51, s109_52, s109_53, s109_55, s109_56, s109_57, s109_58, s109_59, s109_61, s109_64, s109_67, s109_68, s109_70, s109_71, s109_74, s109_75, s109_78, en, em, tw_bi_0, mco (gM c), emb, hlt]
        rcases fcF_4 (ln j) (nn j) lane i n with hfc | hfc | hfc | hfc
        · obtain ⟨p1, _, p3⟩ := fcF_0 hfc
          rw [hfc] at efc
          obtain ⟨i', m, rfl, rfl, l1⟩ := rch_of (by omega) p3
          obtain ⟨b, hb⟩ : ∃ b, b = 60 * j + i' := ⟨_, rfl⟩
          have hb240 : b + m ≤ 240 := by omega
          have eK : cdK f i' m = cdK sf b m := by
            funext p
            unfold cdK
            by_cases z : p < m
            · rw [if_pos z, if_pos z, y10 (i' + p) (by omega), hb, Nat.add_assoc]
            · rw [if_neg z, if_neg z]
          have h44 := hX.1
          obtain ⟨ti, wo, pl, fr, si, co, A, B, C, t3, t4, t5, t6⟩ := id xTx
          obtain ⟨MA, MB, MC, m31, m32, m33⟩ := id mA
          have eT := x_isTaken (h := H1) (b := rb' j) (i := i') (n := m) (N := nn j) (f := f) (by rw [o1 3 (by decide)]; exact t3) (by rw [o1 4 (by decide)]; exact t4) (by rw [o1 5 (by decide)]; exact t5) (by rw [o1 6 (by decide)]; exact t6) gb (by omega) l1 (by omega)
          have two := twP_two (f := sf) (i := b) (n := m) A MA B MB C MC
          rw [eK] at eT
          have c3 : tw_co H1 3 = some 7 := by
            have e3 : H1.2.2 3 = _ := (o1 3 (by decide)).trans t3
            simp [tw_co, e3]
          cases eW : twP (cdK sf b m) m A B C with
          | inl p =>
            rw [eW] at eT
            obtain ⟨ti', wo', A', B', C', eT⟩ := eT
            obtain ⟨H2, hH2⟩ : ∃ H2, H2 = xt H1 ti' wo' p (rb' j) i' m A' B' C' := ⟨_, rfl⟩
            rw [← hH2] at eT
            have o2 : ∀ a, a < 3 ∨ 6 < a → H2.2.2 a = H1.2.2 a := fun a ha => by rw [hH2, xt_o ha]
            have g12 : H2.2.2 1 = some (xC (nI nw) hk lw (nI s0) 0) := by rw [o2 1 (by omega)]; exact g1
            have g32 : H2.2.2 3 = some (tC ti' wo' (nI p) (rb' j) (nI i') (nI m)) := by rw [hH2]; exact xt_3
            have g272 : H2.2.2 27 = some (mC fl (nI nt) (nI nw) hk lw (nI s0) (-9) a1 a2 a3 (nI ns) (nI nr) tr) := by rw [o2 27 (by omega), o1 27 (by decide)]; exact mZ.1
            have gH2 : MH H2 sz ln sf hd := by
              unfold MH at mH ⊢
              rw [o2 40 (by omega), o1 40 (by decide), o2 41 (by omega), o1 41 (by decide), o2 42 (by omega), o1 42 (by decide), o2 43 (by omega), o1 43 (by decide)]
              exact mH
            have eR := m_readsTown (h := H2) (b := b) (n := m) g272 (by rw [o2 31 (by omega), o1 31 (by decide)]; exact m31) (by rw [o2 32 (by omega), o1 32 (by decide)]; exact m32) (by rw [o2 33 (by omega), o1 33 (by decide)]; exact m33) gH2.2.2.1 hb240
            rw [two.1 p eW] at eR
            obtain ⟨rt', rw', A2, B2, C2, eR⟩ := eR
            have emb := m_barred g272 gH2 hj y8 (by omega) lane (nI i') (nI m)
            rw [hfc, if_pos rfl] at emb
            obtain ⟨H3, hH3⟩ : ∃ H3, H3 = mt H2 (mC fl (nI nt) (nI nw) hk lw (nI s0) (-9) (nI p) rt' rw' (nI ns) (nI nr) tr) A2 B2 C2 := ⟨_, rfl⟩
            rw [← hH3] at eR
            have g273 : H3.2.2 27 = some (mC fl (nI nt) (nI nw) hk lw (nI s0) (-9) (nI p) rt' rw' (nI ns) (nI nr) tr) := by rw [hH3]; exact mt_27
            have erf := m_refused g273 (-100 - nI p)
            rw [hH3, mt_s27, ← hH3] at erf
            obtain ⟨K1, K2, K3⟩ := Inv.txt hX hS hM hR (h1 := H2) (by rw [hH2, hH1]) (h2 := mt H2 (mC 0 (nI nt) (nI nw) hk lw (nI s0) (-9) (nI p) rt' rw' (nI ns) (nI nr) tr) A2 B2 C2) rfl
            refine ⟨.int (-100 - nI p), H2, _, ?_, ?_, K1, by omega, by omega⟩
            · simp [s7_0, s7_1, s7_2, s7_5, s7_6, s7_7, s7_10, s7_13, s7_14, s7_15, s7_16, s7_19, s7_22, s7_24, s7_25, s7_26, s7_27, s7_30, s7_30n, s7_32, s7_32n, s7_34, s7_35, s7_36, s7_38, s7_38n, s7_41, s7_41m, s7_43, s7_43n, s7_45, s7_45n, s7_48, s7_50, s7_53, s7_54, s7_56, s7_59, s7_60, s7_61, s7_64, s7_64n, s7_66, s7_69, s7_70, s7_72, s7_75, s7_78, s7_80, s7_81, s7_84, s7_87, s7_88, s7_89, s7_90, s7_93, s7_94, s7_97, tw_sf, xX, tw_fit, ← hH1, xco g1, es, el, tw_bi_0, er, efc, tw_gf, g1, ga, a0, c3, eT, g12, g32]
            · simp [s109_0, s109_1, s109_4, s109_7, s109_8, s109_9, s109_12, s109_13, s109_14, s109_15, s109_16, s109_19, s109_22, s109_25, s109_26, s109_28, s109_31, s109_32, s109_33, s109_34, s109_35, s109_36, s109_38, s109_39, s109_42, s109_44, s109_46, s109_49, s109_51, s109_52, s109_53, s109_55, s109_56, s109_57, s109_58, s109_59, s109_61, s109_64, s109_67, s109_68, s109_70, s109_71, s109_74, s109_75, s109_78, en, em, tw_bi_0, mco g272, mco g273, emb, nI_60, ← hb, eR, tw_gf, g273, erf]
          | inr r =>
            obtain ⟨A3, B3, C3, eW2, n1, n2, n3, n4, n5, n6⟩ := two.2 r eW
            rw [eW] at eT
            simp only at eT
            obtain ⟨t', w', X3, Y3, Z3⟩ := r
            simp only at eT n1 n2 n3 n4 n5 n6 eW2
            obtain ⟨H2, hH2⟩ : ∃ H2, H2 = xt H1 (nI t') (nI w') m (rb' j) i' m X3 Y3 Z3 := ⟨_, rfl⟩
            rw [← hH2] at eT
            have o2 : ∀ a, a < 3 ∨ 6 < a → H2.2.2 a = H1.2.2 a := fun a ha => by rw [hH2, xt_o ha]
            have o12 : ∀ a, a = 2 ∨ 6 < a → H2.2.2 a = h.2.2 a := fun a ha => by rw [o2 a (by omega), o1 a (by omega)]
            have e21 : H2.1 = h.1 := by rw [hH2, hH1]; rfl
            have e22 : H2.2.1 = h.2.1 := by rw [hH2, hH1]; rfl
            have g12 : H2.2.2 1 = some (xC (nI nw) hk lw (nI s0) 0) := by rw [o2 1 (by omega)]; exact g1
            have g32 : H2.2.2 3 = some (tC (nI t') (nI w') (nI m) (rb' j) (nI i') (nI m)) := by rw [hH2]; exact xt_3
            have g42 : H2.2.2 4 = some (iC 6 X3) := by rw [hH2]; exact xt_4
            have g52 : H2.2.2 5 = some (iC 8 Y3) := by rw [hH2]; exact xt_5
            have g62 : H2.2.2 6 = some (iC 8 Z3) := by rw [hH2]; exact xt_6
            have gS2 : XS H2 (nI nt) tfx ns sw sh sa := by
              unfold XS at xS ⊢
              rw [o12 8 (by omega), o12 13 (by omega), o12 9 (by omega), o12 10 (by omega), o12 11 (by omega), o12 12 (by omega)]
              exact xS
            have gR2 : XR H2 nr r1 r2 r3 := by
              unfold XR at xR ⊢
              rw [o12 14 (by omega), o12 15 (by omega), o12 16 (by omega), o12 17 (by omega)]
              exact xR
            have gK2 : XK H2 19 20 21 ft fo := by
              unfold XK at xK ⊢
              rw [o12 19 (by omega), o12 20 (by omega), o12 21 (by omega)]
              exact xK
            obtain ⟨H3, g3, ft3, fo3, s1, s2, s3, s4, s5, s6, s7, s8, s9, s10, s11, s12⟩ := x_settle (H := H2) (by omega) g12 g32 g42 g52 g62 gS2 gR2 gK2 (by rw [o12 18 (by omega)]; exact xW) n4 (fun j hj => (n6 j hj).2.2)
            have o3 : ∀ a, a < h.1 → 21 < a ∨ a = 2 ∨ a = 7 → H3.2.2 a = h.2.2 a := fun a ha hn => by rw [s9 a (by omega) (by omega), o12 a (by omega)]
            have g273 : H3.2.2 27 = some (mC fl (nI nt) (nI nw) hk lw (nI s0) (-9) a1 a2 a3 (nI ns) (nI nr) tr) := by rw [o3 27 (by omega) (by omega)]; exact mZ.1
            have gH3 : MH H3 sz ln sf hd := by
              unfold MH at mH ⊢
              rw [o3 40 (by omega) (by omega), o3 41 (by omega) (by omega), o3 42 (by omega) (by omega), o3 43 (by omega) (by omega)]
              exact mH
            have eR := m_readsTown (h := H3) (b := b) (n := m) g273 (by rw [o3 31 (by omega) (by omega)]; exact m31) (by rw [o3 32 (by omega) (by omega)]; exact m32) (by rw [o3 33 (by omega) (by omega)]; exact m33) gH3.2.2.1 hb240
            rw [eW2] at eR
            simp only at eR
            obtain ⟨ra4, eR⟩ := eR
            have emb := m_barred g273 gH3 hj y8 (by omega) lane (nI i') (nI m)
            rw [hfc, if_pos rfl] at emb
            obtain ⟨H4, hH4⟩ : ∃ H4, H4 = mt H3 (mC fl (nI nt) (nI nw) hk lw (nI s0) (-9) ra4 (nI t') (nI w') (nI ns) (nI nr) tr) A3 B3 C3 := ⟨_, rfl⟩
            rw [← hH4] at eR
            have o4 : ∀ a, a ≠ 27 ∧ a ≠ 31 ∧ a ≠ 32 ∧ a ≠ 33 → H4.2.2 a = H3.2.2 a := fun a ha => by rw [hH4, mt_o ha]
            have htl := m_town_tail (H := H4) (t := t') (w := w') (tf := tfm) (kd := kd) (wt := wt) (A := A3) (B := B3) (C := C3) (v1 := nI j) (v2 := lane) (v3 := nI i') (v4 := nI m) (v5 := 0) (by rw [hH4]; exact mt_27) (by rw [o4 28 (by decide), o3 28 (by omega) (by omega)]; exact mZ.2.1) (by rw [o4 29 (by decide), o3 29 (by omega) (by omega)]; exact mZ.2.2.1) (by rw [o4 30 (by decide), o3 30 (by omega) (by omega)]; exact mZ.2.2.2.1) (by rw [hH4]; exact mt_31) (by rw [hH4]; exact mt_32) (by rw [hH4]; exact mt_33) n2 n4
            obtain ⟨H5, hH5⟩ : ∃ H5, H5 = tw_set (tw_set (tw_set (tw_set H4 28 (iC 6 (fset tfm A3 t'))) 29 (iC 8 (fset kd B3 w'))) 30 (iC 8 (fset wt C3 w'))) 27 (mC 0 (nI t') (nI w') (bitI (nI w') - 1) 0 0 (-9) ra4 (nI t') (nI w') 0 0 tr) := ⟨_, rfl⟩
            rw [← hH5] at htl
            have o5 : ∀ a, a ≠ 27 ∧ a ≠ 28 ∧ a ≠ 29 ∧ a ≠ 30 ∧ a ≠ 31 ∧ a ≠ 32 ∧ a ≠ 33 → H5.2.2 a = H3.2.2 a := fun a ha => by rw [hH5, tw_sg, if_neg ha.1, tw_sg, if_neg ha.2.2.2.1, tw_sg, if_neg ha.2.2.1, tw_sg, if_neg ha.2.1, o4 a ⟨ha.1, ha.2.2.2.2⟩]
            have e51 : H5.1 = H3.1 := by rw [hH5, hH4]; rfl
            have e52 : H5.2.1 = H3.2.1 := by rw [hH5, hH4]; rfl
            have ekd : ∀ x, x < w' → Y3 x = fset kd B3 w' x ∧ Z3 x = fset wt C3 w' x := fun x hx => by
              rw [fset_lt hx, fset_lt hx]
              exact ⟨(n6 x hx).1, (n6 x hx).2.1⟩
            refine ⟨.int (nI w'), H3, H5, ?_, ?_, ⟨w', t', 0, 0, 0, bitI (nI w') - 1, 0, 0, tr, fset tfx X3 6, fset tfm A3 t', sw, sh, sa, f34, f35, r1, r2, r3, ft3, fo3, fset kd B3 w', fset wt C3 w', sz, ln, sf, g3, ?_, ?_, ?_, ?_⟩, by omega, by omega⟩
            · simp [s7_0, s7_1, s7_2, s7_5, s7_6, s7_7, s7_10, s7_13, s7_14, s7_15, s7_16, s7_19, s7_22, s7_24, s7_25, s7_26, s7_27, s7_30, s7_30n, s7_32, s7_32n, s7_34, s7_35, s7_36, s7_38, s7_38n, s7_41, s7_41m, s7_43, s7_43n, s7_45, s7_45n, s7_48, s7_50, s7_53, s7_54, s7_56, s7_59, s7_60, s7_61, s7_64, s7_64n, s7_66, s7_69, s7_70, s7_72, s7_75, s7_78, s7_80, s7_81, s7_84, s7_87, s7_88, s7_89, s7_90, s7_93, s7_94, s7_97, tw_sf, xX, tw_fit, ← hH1, xco g1, xco g12, es, el, tw_bi_0, er, efc, tw_gf, g1, ga, a0, c3, eT, s1, s4]
            · rw [← htl]
              simp [s109_0, s109_1, s109_4, s109_7, s109_8, s109_9, s109_12, s109_13, s109_14, s109_15, s109_16, s109_19, s109_22, s109_25, s109_26, s109_28, s109_31, s109_32, s109_33, s109_34, s109_35, s109_36, s109_38, s109_39, s109_42, s109_44, s109_46, s109_49, s109_51, s109_52, s109_53, s109_55, s109_56, s109_57, s109_58, s109_59, s109_61, s109_64, s109_67, s109_68, s109_70, s109_71, s109_74, s109_75, s109_78, en, em, tw_bi_0, mco g273, emb, nI_60, ← hb, eR]
            · refine ⟨by omega, by rw [o5 1 (by decide)]; exact s4, ?_, ?_, ?_, ⟨oa, ob, ?_⟩, ⟨lf, ?_⟩, by rw [o5 18 (by decide)]; exact s2, fun x hx => ?_, by rw [o5 7 (by decide), o3 7 (by omega) (by omega)]; exact xT, ⟨nI t', nI w', nI m, nI i', nI m, .ref (rb' j), X3, Y3, Z3, ?_, ?_, ?_, ?_⟩⟩
              · unfold XS at s5 ⊢; rw [o5 8 (by decide), o5 13 (by decide), o5 9 (by decide), o5 10 (by decide), o5 11 (by decide), o5 12 (by decide)]; exact s5
              · unfold XR at s6 ⊢; rw [o5 14 (by decide), o5 15 (by decide), o5 16 (by decide), o5 17 (by decide)]; exact s6
              · unfold XK at s7 ⊢; rw [o5 19 (by decide), o5 20 (by decide), o5 21 (by decide)]; exact s7
              · unfold XK at xO ⊢; rw [o5 22 (by decide), o3 22 (by omega) (by omega), o5 23 (by decide), o3 23 (by omega) (by omega), o5 24 (by decide), o3 24 (by omega) (by omega)]; exact xO
              · unfold XL at xL ⊢; rw [o5 25 (by decide), o3 25 (by omega) (by omega), o5 26 (by decide), o3 26 (by omega) (by omega)]; exact xL
              · rcases s3 x hx with ⟨z1, a, z2, z3, z4, z5⟩ | ⟨z1, z2⟩
                · refine Or.inl ⟨z1, a, z2, by omega, by omega, ?_, ?_⟩
                  · rw [o5 a (by omega), z5, (ekd x z1).1, (ekd x z1).2]
                  · rw [← (ekd x z1).1]; exact (n6 x z1).2.2
                · exact Or.inr ⟨z1, z2⟩
              · rw [o5 3 (by decide), s9 3 (by omega) (by decide)]; exact g32
              · rw [o5 4 (by decide), s9 4 (by omega) (by decide)]; exact g42
              · rw [o5 5 (by decide), s9 5 (by omega) (by decide)]; exact g52
              · rw [o5 6 (by decide), s9 6 (by omega) (by decide)]; exact g62
            · exact hS.congr (by omega) (by rw [o5 2 (by decide), o3 2 (by omega) (by omega)]) (fun a k1 k2 => by rw [o5 a (by omega), o3 a k2 (by omega)])
            · refine ⟨⟨ra4, nI t', nI w', by rw [hH5, tw_sg, if_pos rfl]; rfl, ?_, ?_, ?_, ?_, ?_⟩, ?_, ⟨hd, ?_⟩, ⟨mf, ?_⟩, A3, B3, C3, ?_, ?_, ?_⟩
              · rw [hH5, tw_sg, if_neg (by decide), tw_sg, if_neg (by decide), tw_sg, if_neg (by decide), tw_sg, if_pos rfl]
              · rw [hH5, tw_sg, if_neg (by decide), tw_sg, if_neg (by decide), tw_sg, if_pos rfl]
              · rw [hH5, tw_sg, if_neg (by decide), tw_sg, if_pos rfl]
              · rw [o5 34 (by decide), o3 34 (by omega) (by omega)]; exact mZ.2.2.2.2.1
              · rw [o5 35 (by decide), o3 35 (by omega) (by omega)]; exact mZ.2.2.2.2.2
              · refine ⟨by rw [o5 37 (by decide), o3 37 (by omega) (by omega)]; exact mR.1, by rw [o5 38 (by decide), o3 38 (by omega) (by omega)]; exact mR.2.1, by rw [o5 39 (by decide), o3 39 (by omega) (by omega)]; exact mR.2.2.1, by omega, fun x hx => by omega⟩
              · unfold MH at gH3 ⊢; rw [o5 40 (by decide), o5 41 (by decide), o5 42 (by decide), o5 43 (by decide)]; exact gH3
              · rw [o5 36 (by decide), o3 36 (by omega) (by omega)]; exact mL
              · rw [hH5, tw_sg, if_neg (by decide), tw_sg, if_neg (by decide), tw_sg, if_neg (by decide), tw_sg, if_neg (by decide), hH4]; exact mt_31
              · rw [hH5, tw_sg, if_neg (by decide), tw_sg, if_neg (by decide), tw_sg, if_neg (by decide), tw_sg, if_neg (by decide), hH4]; exact mt_32
              · rw [hH5, tw_sg, if_neg (by decide), tw_sg, if_neg (by decide), tw_sg, if_neg (by decide), tw_sg, if_neg (by decide), hH4]; exact mt_33
            · refine ⟨n4, n2, by omega, fun _ => n1, Wn_all n4, fun x hx => ?_, fun x hx => by omega, fun _ x hx => ?_⟩
              · rw [fset_lt (by omega), fset_lt hx]; exact n5 x hx
              · obtain ⟨z1, z2⟩ := s8 x hx
                rw [TT_congr ekd] at z1 z2
                exact ⟨by rw [z1]; exact aT_out hx, by rw [z2]; exact odZ_out hx⟩
        · exact bad 2 (by decide) (by decide) hfc
        · exact bad 3 (by decide) (by decide) hfc
        · exact bad 4 (by decide) (by decide) hfc
    · simp only [decide_eq_false q1] at el em
      refine two_fl hX hS hM hR 0 a1 a2 a3 (.int (-2)) ?_ ?_
      · simp [s7_0, s7_1, s7_2, s7_5, s7_6, s7_7, s7_10, s7_13, s7_14, s7_15, s7_16, s7_19, s7_22, s7_24, s7_25, s7_26, s7_27, s7_30, s7_30n, s7_32, s7_32n, s7_34, s7_35, s7_36, s7_38, s7_38n, s7_41, s7_41m, s7_43, s7_43n, s7_45, s7_45n, s7_48, s7_50, s7_53, s7_54, s7_56, s7_59, s7_60, s7_61, s7_64, s7_64n, s7_66, s7_69, s7_70, s7_72, s7_75, s7_78, s7_80, s7_81, s7_84, s7_87, s7_88, s7_89, s7_90, s7_93, s7_94, s7_97, tw_sf, xX, tw_fit, ← hH1, xco g1, es, el, tw_bi_0]
      · simp [s109_0, s109_1, s109_4, s109_7, s109_8, s109_9, s109_12, s109_13, s109_14, s109_15, s109_16, s109_19, s109_22, s109_25, s109_26, s109_28, s109_31, s109_32, s109_33, s109_34, s109_35, s109_36, s109_38, s109_39, s109_42, s109_44, s109_46, s109_49, s109_51, s109_52, s109_53, s109_55, s109_56, s109_57, s109_58, s109_59, s109_61, s109_64, s109_67, s109_68, s109_70, s109_71, s109_74, s109_75, s109_78, en, em, tw_bi_0, mco (gM 0), m_refused (gM 0)]
  · rw [decide_eq_false q] at es
    simp only [decide_eq_false q] at en
    refine two_fl hX hS hM hR 0 a1 a2 a3 (.int (-1)) ?_ ?_
    · simp [s7_0, s7_1, s7_2, s7_5, s7_6, s7_7, s7_10, s7_13, s7_14, s7_15, s7_16, s7_19, s7_22, s7_24, s7_25, s7_26, s7_27, s7_30, s7_30n, s7_32, s7_32n, s7_34, s7_35, s7_36, s7_38, s7_38n, s7_41, s7_41m, s7_43, s7_43n, s7_45, s7_45n, s7_48, s7_50, s7_53, s7_54, s7_56, s7_59, s7_60, s7_61, s7_64, s7_64n, s7_66, s7_69, s7_70, s7_72, s7_75, s7_78, s7_80, s7_81, s7_84, s7_87, s7_88, s7_89, s7_90, s7_93, s7_94, s7_97, tw_sf, xX, tw_fit, ← hH1, xco g1, es, tw_bi_0]
    · simp [s109_0, s109_1, s109_4, s109_7, s109_8, s109_9, s109_12, s109_13, s109_14, s109_15, s109_16, s109_19, s109_22, s109_25, s109_26, s109_28, s109_31, s109_32, s109_33, s109_34, s109_35, s109_36, s109_38, s109_39, s109_42, s109_44, s109_46, s109_49, s109_51, s109_52, s109_53, s109_55, s109_56, s109_57, s109_58, s109_59, s109_61, s109_64, s109_67, s109_68, s109_70, s109_71, s109_74, s109_75, s109_78, en, tw_bi_0, mco (gM 0), m_refused (gM 0)]
end O1
