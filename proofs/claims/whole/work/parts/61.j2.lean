/-! sheets, both -/
section K1
variable {h h' : tw_H} {nw nt s0 ns nr : Nat} {hk lw fl tr : Int32} {tfx tfm sw sh sa f34 f35 rw rh ra ft fo kd wt sz ln sf : Nat → Int32} {g : Nat → Option Nat}
theorem below_of {N : Nat} (hN : N < 2 ^ 31) {x : Int32} (h : ¬ x < 0 ∧ x < nI N) : ∃ s, s < N ∧ x = nI s := by
  obtain ⟨j, hj, rfl⟩ := nI_of h.1
  exact ⟨j, (nI_ltI hj hN).mp h.2, rfl⟩
theorem m_in2 (v : Int32) (h : tw_H) : tw_b 111 0 [.long v.toInt64, tw_un, .long 0, tw_un, .long 2, tw_un] [] h = some (some (.int (tw_bi (decide (¬ v < 0 ∧ v < 3)))), h) := by
  have i3 : ((0 : Int64) ≤ v.toInt64) = ¬ v < 0 := l_ge v 0 0 rfl
  have i4 : (v.toInt64 ≤ (2 : Int64)) = ¬ 2 < v := l_le v 2 2 rfl
  have i5 : (¬ v < 0 ∧ ¬ 2 < v) = (¬ v < 0 ∧ v < 3) := by
    rw [Int32.lt_iff_toInt_lt, Int32.lt_iff_toInt_lt, Int32.lt_iff_toInt_lt]
    have : (2 : Int32).toInt = 2 := rfl
    have : (3 : Int32).toInt = 3 := rfl
    exact propext (by omega)
  have hi := m_in v.toInt64 0 2 h
  by_cases q : ¬ v < 0 ∧ v < 3
  · rw [show decide ((0 : Int64) ≤ v.toInt64 ∧ v.toInt64 ≤ 2) = true from by rw [decide_eq_true_iff, i3, i4, i5]; exact q] at hi
    rw [hi, decide_eq_true q]
  · rw [show decide ((0 : Int64) ≤ v.toInt64 ∧ v.toInt64 ≤ 2) = false from by rw [decide_eq_false_iff_not, i3, i4, i5]; exact q] at hi
    rw [hi, decide_eq_false q]
def SIo (h : tw_H) (sz ln sf : Nat → Int32) (gs : Nat → Option Nat) (ra rb nn : Nat → Nat) : Prop := h.2.2 2 = some (rC 1 4 gs) ∧ ∀ k, k < 4 → (gs k = none ∧ sz k = -1) ∨ (gs k = some (ra k) ∧ 43 < ra k ∧ ra k < h.1 ∧ 43 < rb k ∧ rb k < h.1 ∧ h.2.2 (ra k) = some (oC 3 [.int (ln k), .ref (rb k)]) ∧ nn k ≤ 60 ∧ sz k = nI (nn k) ∧ (∃ f, h.2.2 (rb k) = some (iC (nn k) f) ∧ ∀ j, j < nn k → f j = sf (60 * k + j)) ∧ ∀ k', k' < 4 → k' ≠ k → gs k' ≠ none → rb k' ≠ rb k)
/-- a change at one place -/
def upd' (f : Nat → Nat) (k x : Nat) : Nat → Nat := fun j => if j = k then x else f j
theorem SI.opn (H : SI h sz ln sf) : ∃ gs ra rb nn, SIo h sz ln sf gs ra rb nn := H
theorem SIo.cls {gs : Nat → Option Nat} {ra rb nn : Nat → Nat} (H : SIo h sz ln sf gs ra rb nn) : SI h sz ln sf := ⟨gs, ra, rb, nn, H⟩
theorem XI.c2 (H : XI h nw nt s0 ns nr hk lw fl tr tfx sw sh sa rw rh ra ft fo kd wt g) (e1 : h.1 ≤ h'.1) (e : ∀ a, a < 27 → a ≠ 2 → h'.2.2 a = h.2.2 a) (w : WK h' nw g kd wt) : XI h' nw nt s0 ns nr hk lw fl tr tfx sw sh sa rw rh ra ft fo kd wt g := by
  obtain ⟨x1, x2, x3, x4, x5, ⟨oa, ob, x6⟩, ⟨lf, x7⟩, x8, x9, x10, ti, wo, pl, fr, si, co, A, B, C, x11⟩ := H
  refine ⟨by omega, by rw [e 1 (by omega) (by omega)]; exact x2, ?_, ?_, ?_, ⟨oa, ob, ?_⟩, ⟨lf, ?_⟩, by rw [e 18 (by omega) (by omega)]; exact x8, w, by rw [e 7 (by omega) (by omega)]; exact x10, ti, wo, pl, fr, si, co, A, B, C, ?_⟩
  · unfold XS at x3 ⊢; rw [e 8 (by omega) (by omega), e 13 (by omega) (by omega), e 9 (by omega) (by omega), e 10 (by omega) (by omega), e 11 (by omega) (by omega), e 12 (by omega) (by omega)]; exact x3
  · unfold XR at x4 ⊢; rw [e 14 (by omega) (by omega), e 15 (by omega) (by omega), e 16 (by omega) (by omega), e 17 (by omega) (by omega)]; exact x4
  · unfold XK at x5 ⊢; rw [e 19 (by omega) (by omega), e 20 (by omega) (by omega), e 21 (by omega) (by omega)]; exact x5
  · unfold XK at x6 ⊢; rw [e 22 (by omega) (by omega), e 23 (by omega) (by omega), e 24 (by omega) (by omega)]; exact x6
  · unfold XL at x7 ⊢; rw [e 25 (by omega) (by omega), e 26 (by omega) (by omega)]; exact x7
  · rw [e 3 (by omega) (by omega), e 4 (by omega) (by omega), e 5 (by omega) (by omega), e 6 (by omega) (by omega)]; exact x11
theorem WK.cell (H : WK h nw g kd wt) (e1 : h.1 ≤ h'.1) {b n : Nat} {f : Nat → Int32} (hb : h.2.2 b = some (iC n f)) (e : ∀ a, 43 < a → a < h.1 → a ≠ b → h'.2.2 a = h.2.2 a) : WK h' nw g kd wt := fun k hk => by
  rcases H k hk with ⟨y1, a, y2, y3, y4, y5, y6⟩ | z
  · refine Or.inl ⟨y1, a, y2, y3, by omega, ?_, y6⟩
    rw [e a y3 y4 (fun z => by rw [z, hb] at y5; cases y5)]
    exact y5
  · exact Or.inr z
theorem MI.mh (H : MI h nw nt s0 ns nr hk lw fl tr tfm f34 f35 rw rh ra kd wt sz ln sf) (e : ∀ a, 26 < a → a < 40 → h'.2.2 a = h.2.2 a) {sz' ln' sf' hd' : Nat → Int32} (m : MH h' sz' ln' sf' hd') : MI h' nw nt s0 ns nr hk lw fl tr tfm f34 f35 rw rh ra kd wt sz' ln' sf' := by
  obtain ⟨⟨r1, r2, r3, m1⟩, m2, _, ⟨f, m4⟩, A, B, C, m5⟩ := H
  refine ⟨⟨r1, r2, r3, ?_⟩, ?_, ⟨hd', m⟩, ⟨f, by rw [e 36 (by omega) (by omega)]; exact m4⟩, A, B, C, ?_⟩
  · unfold MZ at m1 ⊢; rw [e 27 (by omega) (by omega), e 28 (by omega) (by omega), e 29 (by omega) (by omega), e 30 (by omega) (by omega), e 34 (by omega) (by omega), e 35 (by omega) (by omega)]; exact m1
  · unfold MR at m2 ⊢; rw [e 37 (by omega) (by omega), e 38 (by omega) (by omega), e 39 (by omega) (by omega)]; exact m2
  · rw [e 31 (by omega) (by omega), e 32 (by omega) (by omega), e 33 (by omega) (by omega)]; exact m5
theorem SIo.write {gs : Nat → Option Nat} {ra rb nn : Nat → Nat} (H : SIo h sz ln sf gs ra rb nn) {o : Nat} (ho : o < 4) (hg : gs o ≠ none) (e1 : h.1 ≤ h'.1) (e : ∀ a, a = 2 ∨ 43 < a → a ≠ rb o → h'.2.2 a = h.2.2 a) {F sf' : Nat → Int32} (eb : h'.2.2 (rb o) = some (iC (nn o) F)) (hF : ∀ x, x < nn o → F x = sf' (60 * o + x)) (hs : ∀ k' x, k' < 4 → k' ≠ o → x < 60 → sf' (60 * k' + x) = sf (60 * k' + x)) : SIo h' sz ln sf' gs ra rb nn := by
  obtain ⟨s1, s2⟩ := H
  have hob : 43 < rb o ∧ ∃ f, h.2.2 (rb o) = some (iC (nn o) f) := by
    rcases s2 o ho with ⟨z, _⟩ | ⟨_, _, _, y4, _, _, _, _, ⟨f, y9, _⟩, _⟩
    · exact absurd z hg
    · exact ⟨y4, f, y9⟩
  obtain ⟨ho43, fo, hfo⟩ := hob
  refine ⟨by rw [e 2 (Or.inl rfl) (by omega)]; exact s1, fun k hk => ?_⟩
  rcases s2 k hk with z | ⟨y1, y2, y3, y4, y5, y6, y7, y8, ⟨f, y9, y10⟩, y11⟩
  · exact Or.inl z
  · have hra : ra k ≠ rb o := fun z => by rw [z, hfo] at y6; cases y6
    refine Or.inr ⟨y1, y2, by omega, y4, by omega, by rw [e _ (Or.inr y2) hra]; exact y6, y7, y8, ?_, y11⟩
    by_cases z : k = o
    · subst z
      exact ⟨F, eb, hF⟩
    · have hrb : rb k ≠ rb o := fun y => y11 o ho (fun x => z x.symm) hg y.symm
      exact ⟨f, by rw [e _ (Or.inr y4) hrb]; exact y9, fun j hj => by rw [y10 j hj, hs k j hk z (by omega)]⟩
theorem two_fl (hX : XI h nw nt s0 ns nr hk lw fl tr tfx sw sh sa rw rh ra ft fo kd wt g) (hS : SI h sz ln sf) (hM : MI h nw nt s0 ns nr hk lw fl tr tfm f34 f35 rw rh ra kd wt sz ln sf) (hR : RI nw nt s0 ns nr hk lw tfx tfm sh sa f34 f35 ft fo kd wt) (fl' b1 b2 b3 : Int32) (v : Value) {mx mm : Nat} {Lx Lm : List Value} (ex : tw_b mx 0 Lx [] h = some (some v, tw_set h 1 (xC (nI nw) hk lw (nI s0) fl'))) (em : tw_b mm 0 Lm [] (tw_set h 1 (xC (nI nw) hk lw (nI s0) fl')) = some (some v, tw_set (tw_set h 1 (xC (nI nw) hk lw (nI s0) fl')) 27 (mC fl' (nI nt) (nI nw) hk lw (nI s0) (-9) b1 b2 b3 (nI ns) (nI nr) tr))) : Two h mx Lx mm Lm := ⟨v, _, _, ex, em, Inv.flt hX hS hM hR fl' b1 b2 b3, by rw [tw_sg1, tw_sg1]; omega, by rw [tw_sg2, tw_sg2]; omega⟩
theorem rch_of {n : Nat} (hn : n < 2 ^ 31) {i m : Int32} (h : rchB n i m = true) : ∃ i' m', i = nI i' ∧ m = nI m' ∧ i' + m' ≤ n := by
  unfold rchB at h
  obtain ⟨⟨h1, h2⟩, h3, h4⟩ := of_decide_eq_true h
  obtain ⟨i', hi, rfl⟩ := nI_of h1
  obtain ⟨m', hm, rfl⟩ := nI_of h2
  have a1 : i' ≤ n := by
    by_cases z : n < i'
    · exact absurd (nI_lt z hi) h3
    · omega
  have esub : nI n - nI i' = nI (n - i') := by
    rw [show nI n = nI (n - i') + nI i' by rw [nI_add, Nat.sub_add_cancel a1]]
    exact Int32.add_sub_cancel _ _
  rw [esub] at h4
  have a2 : m' ≤ n - i' := by
    by_cases z : n - i' < m'
    · exact absurd (nI_lt z hm) h4
    · omega
  exact ⟨i', m', rfl, rfl, by omega⟩
end K1
section K2
variable {h : tw_H}
theorem c_lose (I : Inv h) (k : Int32) : Two h 89 [.ref 1, .int k] 165 [.ref 27, .int k, tw_un] := by
  obtain ⟨nw, nt, s0, ns, nr, hk, lw, fl, tr, tfx, tfm, sw, sh, sa, f34, f35, r1, r2, r3, ft, fo, kd, wt, sz, ln, sf, g, hX, hS, hM, hR⟩ := id I
  obtain ⟨x44, xX, xS, xR, xK, ⟨oa, ob, xO⟩, ⟨lf, xL⟩, xW, xWK, xT, xTx⟩ := id hX
  obtain ⟨⟨a1, a2, a3, mZ⟩, mR, ⟨hd, mH⟩, ⟨mf, mL⟩, mA⟩ := id hM
  obtain ⟨r8, r6, r0, rs, rW, rT, rN, rF⟩ := id hR
  obtain ⟨gs, ra', rb', nn, hSo⟩ := hS.opn
  have es := x_isSheet xX hSo.1 k
  have en := fun h => m_noSheet k h
  by_cases q : ¬ k < 0 ∧ k < 4
  · rw [decide_eq_true q] at es
    simp only [decide_eq_true q] at en
    obtain ⟨j, hj, rfl⟩ := below_of (N := 4) (by decide) q
    have ev := tw_vi_n (show j < 4 by omega) (by decide)
    have ec := nI_clamp (show j < 2 ^ 31 by omega)
    rcases hSo.2 j hj with ⟨y1, y2⟩ | ⟨y1, y2, y3, y4, y5, y6, y7, y8, ⟨f, y9, y10⟩, y11⟩
    · have eu : upd sz j (-1) = sz := by
        funext x
        unfold upd
        by_cases z : x = j
        · rw [if_pos z, z, y2]
        · rw [if_neg z]
      refine ⟨.int 0, h, h, ?_, ?_, I, by omega, by omega⟩
      · have haa : tw_aa h 2 (nI j) = some .null := by simp [tw_aa, hSo.1, ev, ec, y1, tw_rf]
        simp [s89_0, s89_1, s89_2, s89_5, s89_8, s89_9, s89_10, s89_11, s89_14, s89_15, s89_16, s89_16n, s89_19, s89_20, s89_21, s89_22, s89_25, s89_26, s89_27, s89_28, s89_29, xco xX, es, tw_bi_0, tw_gf, xX, haa]
      · simp [s165_0, s165_1, s165_4, s165_7, s165_8, s165_9, s165_10, s165_13, s165_14, s165_15, s165_18, s165_19, s165_22, s165_23, s165_24, s165_25, s165_28, s165_29, s165_30, s165_31, s165_32, en, tw_bi_0, tw_gf, tw_ia, tw_ix, mZ.1, mH.1, ev, ec, y2, eu, tw_si h mH.1]
    · have e0 : ¬ nI (nn j) < 0 := nI_pos (by omega)
      have haa : tw_aa h 2 (nI j) = some (.ref (ra' j)) := by simp [tw_aa, hSo.1, ev, ec, y1, tw_rf]
      have hax : tw_ax h 2 (nI j) .null = some (tw_set h 2 (rC 1 4 (va_up gs j none))) := by simp [tw_ax, hSo.1, ev, ec, tw_el]
      obtain ⟨H1, hH1⟩ : ∃ H1, H1 = tw_set h 2 (rC 1 4 (va_up gs j none)) := ⟨_, rfl⟩
      rw [← hH1] at hax
      have o1 : ∀ a, a ≠ 2 → H1.2.2 a = h.2.2 a := fun a ha => by rw [hH1, tw_sg, if_neg ha]
      obtain ⟨H2, hH2⟩ : ∃ H2, H2 = tw_set H1 40 (iC 4 (upd sz j (-1))) := ⟨_, rfl⟩
      have o2 : ∀ a, a ≠ 2 ∧ a ≠ 40 → H2.2.2 a = h.2.2 a := fun a ha => by rw [hH2, tw_sg, if_neg ha.2, o1 a ha.1]
      have e11 : H2.1 = h.1 := by rw [hH2, tw_sg1, hH1, tw_sg1]
      have e12 : H2.2.1 = h.2.1 := by rw [hH2, tw_sg2, hH1, tw_sg2]
      have gM := mZ.1
      rw [← o1 27 (by decide)] at gM
      have g40 := mH.1
      rw [← o1 40 (by decide)] at g40
      refine ⟨.int 1, H1, H2, ?_, ?_, ⟨nw, nt, s0, ns, nr, hk, lw, fl, tr, tfx, tfm, sw, sh, sa, f34, f35, r1, r2, r3, ft, fo, kd, wt, upd sz j (-1), ln, sf, g, hX.c2 (by omega) (fun a h1 h2 => o2 a (by omega)) (xWK.congr (by omega) (fun a h1 _ => o2 a (by omega))), ⟨va_up gs j none, ra', rb', nn, by rw [hH2, tw_sg, if_neg (by decide), hH1, tw_sg, if_pos rfl], fun k hk => ?_⟩, hM.mh (hd' := hd) (fun a h1 h2 => o2 a (by omega)) ⟨by rw [hH2, tw_sg, if_pos rfl], by rw [o2 41 (by decide)]; exact mH.2.1, by rw [o2 42 (by decide)]; exact mH.2.2.1, by rw [o2 43 (by decide)]; exact mH.2.2.2⟩, hR⟩, by omega, by omega⟩
      · simp [s89_0, s89_1, s89_2, s89_5, s89_8, s89_9, s89_10, s89_11, s89_14, s89_15, s89_16, s89_16n, s89_19, s89_20, s89_21, s89_22, s89_25, s89_26, s89_27, s89_28, s89_29, xco xX, es, tw_bi_0, tw_gf, xX, haa, hax]
      · rw [hH2]
        simp [s165_0, s165_1, s165_4, s165_7, s165_8, s165_9, s165_10, s165_13, s165_14, s165_15, s165_18, s165_19, s165_22, s165_23, s165_24, s165_25, s165_28, s165_29, s165_30, s165_31, s165_32, en, tw_bi_0, tw_gf, tw_ia, tw_ix, gM, g40, ev, ec, y8, e0]
      · by_cases z : k = j
        · refine Or.inl ⟨?_, ?_⟩
          · unfold va_up; rw [if_pos z]
          · unfold upd; rw [if_pos z]
        · have eg : va_up gs j none k = gs k := by unfold va_up; rw [if_neg z]
          have eu : upd sz j (-1) k = sz k := by unfold upd; rw [if_neg z]
          rw [eg, eu]
          rcases hSo.2 k hk with w | ⟨y1, y2, y3, y4, y5, y6, y7, y8, ⟨f, y9, y10⟩, y11⟩
          · exact Or.inl w
          · refine Or.inr ⟨y1, y2, by omega, y4, by omega, by rw [o2 _ (by omega)]; exact y6, y7, y8, ⟨f, by rw [o2 _ (by omega)]; exact y9, y10⟩, fun k' h1 h2 h3 => y11 k' h1 h2 (fun w => h3 ?_)⟩
            unfold va_up
            by_cases x : k' = j
            · rw [if_pos x]
            · rw [if_neg x]; exact w
  · rw [decide_eq_false q] at es
    simp only [decide_eq_false q] at en
    refine ⟨.int (-1), h, h, ?_, ?_, I, by omega, by omega⟩
    · simp [s89_0, s89_1, s89_2, s89_5, s89_8, s89_9, s89_10, s89_11, s89_14, s89_15, s89_16, s89_16n, s89_19, s89_20, s89_21, s89_22, s89_25, s89_26, s89_27, s89_28, s89_29, xco xX, es, tw_bi_0]
    · simp [s165_0, s165_1, s165_4, s165_7, s165_8, s165_9, s165_10, s165_13, s165_14, s165_15, s165_18, s165_19, s165_22, s165_23, s165_24, s165_25, s165_28, s165_29, s165_30, s165_31, s165_32, en, tw_bi_0]
theorem c_sheet (I : Inv h) (k lane n : Int32) : Two h 87 [.ref 1, .int k, .int lane, .int n] 164 [.ref 27, .int k, .int lane, .int n, tw_un] := by
  obtain ⟨nw, nt, s0, ns, nr, hk, lw, fl, tr, tfx, tfm, sw, sh, sa, f34, f35, r1, r2, r3, ft, fo, kd, wt, sz, ln, sf, g, hX, hS, hM, hR⟩ := id I
  obtain ⟨x44, xX, xS, xR, xK, ⟨oa, ob, xO⟩, ⟨lf, xL⟩, xW, xWK, xT, xTx⟩ := id hX
  obtain ⟨⟨a1, a2, a3, mZ⟩, mR, ⟨hd, mH⟩, ⟨mf, mL⟩, mA⟩ := id hM
  obtain ⟨r8, r6, r0, rs, rW, rT, rN, rF⟩ := id hR
  obtain ⟨gs, ra', rb', nn, hSo⟩ := hS.opn
  obtain ⟨H1, hH1⟩ : ∃ H1, H1 = tw_set h 1 (xC (nI nw) hk lw (nI s0) 0) := ⟨_, rfl⟩
  have o1 : ∀ a, a ≠ 1 → H1.2.2 a = h.2.2 a := fun a ha => by rw [hH1, tw_sg, if_neg ha]
  have g1 : H1.2.2 1 = some (xC (nI nw) hk lw (nI s0) 0) := by rw [hH1, tw_sg, if_pos rfl]
  have g2 : H1.2.2 2 = some (rC 1 4 gs) := by rw [o1 2 (by decide)]; exact hSo.1
  have es := x_isSheet g1 g2 k
  have en := fun h => m_noSheet k h
  have el := fun h => x_isLane lane h
  have em := fun h => m_in2 lane h
  have gM : ∀ fl', (tw_set h 1 (xC (nI nw) hk lw (nI s0) fl')).2.2 27 = some (mC fl (nI nt) (nI nw) hk lw (nI s0) (-9) a1 a2 a3 (nI ns) (nI nr) tr) := fun fl' => by rw [tw_sg, if_neg (by decide)]; exact mZ.1
  by_cases q : ¬ k < 0 ∧ k < 4
  · rw [decide_eq_true q] at es
    simp only [decide_eq_true q] at en
    by_cases q1 : (¬ lane < 0 ∧ lane < 3) ∧ ¬ 60 < n
    · simp only [decide_eq_true q1.1] at el em
      by_cases q2 : n < 0
      · refine two_fl hX hS hM hR 4 a1 a2 a3 (.int (-14)) ?_ ?_
        · have ef := x_faulted g1 4
          rw [hH1, tw_ss, ← hH1] at ef
          simp [s87_0, s87_1, s87_2, s87_5, s87_6, s87_7, s87_10, s87_13, s87_14, s87_15, s87_16, s87_19, s87_22, s87_23, s87_25, s87_28, s87_30, s87_31, s87_32, s87_35, s87_36, s87_37, s87_40, s87_41, s87_42, s87_45, s87_46, s87_49, s87_50, s87_51, s87_52, s87_55, s87_56, s87_57, tw_sf, xX, tw_fit, ← hH1, xco g1, es, el, tw_bi_0, q1.2, q2, ef]
        · simp [s164_0, s164_1, s164_4, s164_7, s164_8, s164_9, s164_12, s164_13, s164_14, s164_15, s164_16, s164_19, s164_22, s164_25, s164_26, s164_28, s164_31, s164_32, s164_34, s164_37, s164_38, s164_39, s164_42, s164_43, s164_44, s164_47, s164_48, s164_49, s164_52, s164_53, s164_54, s164_55, s164_56, s164_59, s164_60, s164_61, s164_62, s164_63, s164_67, s164_68, s164_71, s164_72, s164_75, s164_77, s164_78, s164_79, s164_81, s164_82, s164_83, s164_84, s164_87, s164_90, s164_91, s164_92, s164_95, en, em, tw_bi_0, q1.2, q2, mco (gM 4), m_failed (gM 4)]
      · obtain ⟨j, hj, rfl⟩ := below_of (N := 4) (by decide) q
        obtain ⟨m, hm, rfl⟩ := nI_of q2
        have hm60 : m ≤ 60 := by
          by_cases z : 60 < m
          · exact absurd (nI_lt (a := 60) z hm) q1.2
          · omega
        have ev := tw_vi_n (show j < 4 by omega) (by decide)
        have ec := nI_clamp (show j < 2 ^ 31 by omega)
        have e11 : H1.1 = h.1 := by rw [hH1, tw_sg1]
        have e12 : H1.2.1 = h.2.1 := by rw [hH1, tw_sg2]
        have z0 : H1.1 ≠ 0 := by omega
        obtain ⟨H2, hH2⟩ : ∃ H2, H2 = tw_new H1 (oC 3 [.int 0, .null]) 2 := ⟨_, rfl⟩
        have ga2 : H2.2.2 H1.1 = some (oC 3 [.int 0, .null]) := by rw [hH2, tw_ng, if_pos rfl]
        have e21 : H2.1 = h.1 + 1 := by rw [hH2, tw_ng1, e11]
        have e22 : H2.2.1 = h.2.1 + 2 := by rw [hH2, tw_ng2, e12]
        have hri := x_rowInit (h := H2) (a := H1.1) (ln := lane) (m := m) (by omega) ga2 z0 (by omega) (by omega)
        obtain ⟨H3, hH3⟩ : ∃ H3, H3 = tw_set (tw_new (tw_set H2 H1.1 (oC 3 [.int lane, .null])) (iC m (fun _ => 0)) m) H1.1 (oC 3 [.int lane, .ref H2.1]) := ⟨_, rfl⟩
        rw [← hH3] at hri
        have ga3 : H3.2.2 H1.1 = some (oC 3 [.int lane, .ref H2.1]) := by rw [hH3, tw_sg, if_pos rfl]
        have gb3 : H3.2.2 H2.1 = some (iC m (fun _ => 0)) := by rw [hH3, tw_sg, if_neg (by omega), tw_ng, if_pos (by rw [tw_sg1])]
        have o3 : ∀ a, a < h.1 → H3.2.2 a = H1.2.2 a := fun a ha => by rw [hH3, tw_sg, if_neg (by omega), tw_ng, if_neg (by rw [tw_sg1]; omega), tw_sg, if_neg (by omega), hH2, tw_ng, if_neg (by omega)]
        have e31 : H3.1 = h.1 + 2 := by rw [hH3, tw_sg1, tw_ng1, tw_sg1, e21]
        have e32 : H3.2.1 = h.2.1 + 2 + m := by rw [hH3, tw_sg2, tw_ng2, tw_sg2, e22]
        have g23 : H3.2.2 2 = some (rC 1 4 gs) := by rw [o3 2 (by omega)]; exact g2
        have hax : tw_ax H3 2 (nI j) (.ref H1.1) = some (tw_set H3 2 (rC 1 4 (va_up gs j (some H1.1)))) := by simp [tw_ax, g23, ev, ec, tw_el, ga3, z0]
        obtain ⟨H4, hH4⟩ : ∃ H4, H4 = tw_set H3 2 (rC 1 4 (va_up gs j (some H1.1))) := ⟨_, rfl⟩
        rw [← hH4] at hax
        have e41 : H4.1 = h.1 + 2 := by rw [hH4, tw_sg1, e31]
        have e42 : H4.2.1 = h.2.1 + 2 + m := by rw [hH4, tw_sg2, e32]
        have o4 : ∀ a, a < h.1 → a ≠ 1 ∧ a ≠ 2 → H4.2.2 a = h.2.2 a := fun a ha hn => by rw [hH4, tw_sg, if_neg hn.2, o3 a ha, o1 a hn.1]
        have g14 : H4.2.2 1 = some (xC (nI nw) hk lw (nI s0) 0) := by rw [hH4, tw_sg, if_neg (by decide), o3 1 (by omega)]; exact g1
        have g274 := mZ.1
        rw [← o4 27 (by omega) (by decide)] at g274
        obtain ⟨H5, hH5⟩ : ∃ H5, H5 = tw_set (tw_set H4 40 (iC 4 (upd sz j (nI m)))) 41 (iC 4 (upd ln j lane)) := ⟨_, rfl⟩
        have o5 : ∀ a, a < h.1 → a ≠ 1 ∧ a ≠ 2 ∧ a ≠ 40 ∧ a ≠ 41 → H5.2.2 a = h.2.2 a := fun a ha hn => by rw [hH5, tw_sg, if_neg hn.2.2.2, tw_sg, if_neg hn.2.2.1, o4 a ha ⟨hn.1, hn.2.1⟩]
        have g275 := mZ.1
        rw [← o5 27 (by omega) (by decide)] at g275
        have g425 := mH.2.2.1
        rw [← o5 42 (by omega) (by decide)] at g425
        have hz := m_zero_loop (h := H5) (sf := sf) (k := j) (n := m) g275 hj hm60 lane m 0 (by omega)
        rw [zrF_0, tw_si H5 g425, nI_0] at hz
        obtain ⟨H6, hH6⟩ : ∃ H6, H6 = tw_set H5 42 (iC 240 (zrF sf (60 * j) m)) := ⟨_, rfl⟩
        rw [← hH6] at hz
        have o6 : ∀ a, a ≠ 40 ∧ a ≠ 41 ∧ a ≠ 42 → H6.2.2 a = H4.2.2 a := fun a hn => by rw [hH6, tw_sg, if_neg hn.2.2, hH5, tw_sg, if_neg hn.2.1, tw_sg, if_neg hn.1]
        have e61 : H6.1 = h.1 + 2 := by rw [hH6, tw_sg1, hH5, tw_sg1, tw_sg1, e41]
        have e62 : H6.2.1 = h.2.1 + 2 + m := by rw [hH6, tw_sg2, hH5, tw_sg2, tw_sg2, e42]
        have hX1 := hX.s1 hk lw 0 s0
        rw [← hH1] at hX1
        have h44 := hX.1
        have hX6 : XI H6 nw nt s0 ns nr hk lw 0 tr tfx sw sh sa r1 r2 r3 ft fo kd wt g := hX1.c2 (by omega) (fun a h1 h2 => by rw [o6 a (by omega), hH4, tw_sg, if_neg h2, o3 a (by omega)]) (xWK.congr (by omega) (fun a h1 h2 => by rw [o6 a (by omega), o4 a h2 (by omega)]))
        have hM6 : MI H6 nw nt s0 ns nr hk lw fl tr tfm f34 f35 r1 r2 r3 kd wt (upd sz j (nI m)) (upd ln j lane) (zrF sf (60 * j) m) := hM.mh (hd' := hd) (fun a h1 h2 => by rw [o6 a (by omega), o4 a (by omega) (by omega)]) ⟨by rw [hH6, tw_sg, if_neg (by decide), hH5, tw_sg, if_neg (by decide), tw_sg, if_pos rfl], by rw [hH6, tw_sg, if_neg (by decide), hH5, tw_sg, if_pos rfl], by rw [hH6, tw_sg, if_pos rfl], by rw [o6 43 (by decide), o4 43 (by omega) (by decide)]; exact mH.2.2.2⟩
        have gs6 : SI H6 (upd sz j (nI m)) (upd ln j lane) (zrF sf (60 * j) m) := by
          refine ⟨va_up gs j (some H1.1), upd' ra' j H1.1, upd' rb' j H2.1, upd' nn j m, by rw [o6 2 (by decide), hH4, tw_sg, if_pos rfl], fun k hk => ?_⟩
          by_cases z : k = j
          · subst z
            refine Or.inr ⟨by simp [va_up, upd'], ?_, ?_, ?_, ?_, ?_, ?_, ?_, ⟨fun _ => 0, ?_, fun x hx => ?_⟩, fun k' k1 k2 k3 => ?_⟩
            · simp only [upd', if_true]; omega
            · simp only [upd', if_true]; omega
            · simp only [upd', if_true]; omega
            · simp only [upd', if_true]; omega
            · simp only [upd', upd, if_true]; rw [o6 _ (by omega), hH4, tw_sg, if_neg (by omega)]; exact ga3
            · simp only [upd', if_true]; exact hm60
            · simp only [upd', upd, if_true]
            · simp only [upd', if_true]; rw [o6 _ (by omega), hH4, tw_sg, if_neg (by omega)]; exact gb3
            · simp only [upd', if_true] at hx
              unfold zrF; rw [if_pos (by omega)]
            · simp only [va_up, if_neg k2] at k3
              simp only [upd', if_neg k2, if_true]
              rcases hSo.2 k' k1 with ⟨w, _⟩ | ⟨_, _, _, _, y5, _⟩
              · exact absurd w k3
              · omega
          · have eg : va_up gs j (some H1.1) k = gs k := by unfold va_up; rw [if_neg z]
            have eu : upd sz j (nI m) k = sz k := by unfold upd; rw [if_neg z]
            have el : upd ln j lane k = ln k := by unfold upd; rw [if_neg z]
            have e1 : upd' ra' j H1.1 k = ra' k := by unfold upd'; rw [if_neg z]
            have e2 : upd' rb' j H2.1 k = rb' k := by unfold upd'; rw [if_neg z]
            have e3 : upd' nn j m k = nn k := by unfold upd'; rw [if_neg z]
            rw [eg, eu, el, e1, e2, e3]
            rcases hSo.2 k hk with w | ⟨y1, y2, y3, y4, y5, y6, y7, y8, ⟨f, y9, y10⟩, y11⟩
            · exact Or.inl w
            · refine Or.inr ⟨y1, y2, by omega, y4, by omega, by rw [o6 _ (by omega), o4 _ y3 (by omega)]; exact y6, y7, y8, ⟨f, by rw [o6 _ (by omega), o4 _ y5 (by omega)]; exact y9, fun x hx => ?_⟩, fun k' k1 k2 k3 => ?_⟩
              · rw [y10 x hx]
                unfold zrF
                rw [if_neg (by omega)]
              · by_cases w : k' = j
                · unfold upd'; rw [if_pos w]; omega
                · unfold upd'; rw [if_neg w]
                  unfold va_up at k3; rw [if_neg w] at k3
                  exact y11 k' k1 k2 k3
        refine ⟨.int 1, H4, _, ?_, ?_, ⟨nw, nt, s0, ns, nr, hk, lw, 0, tr, tfx, tfm, sw, sh, sa, f34, f35, r1, r2, r3, ft, fo, kd, wt, upd sz j (nI m), upd ln j lane, zrF sf (60 * j) m, g, hX6.hi (a := 27) (by omega) _, gs6.lo (by omega) (by omega) _, hM6.s27 a1 a2 a3 hk lw 0 tr s0 ns nr (Nat.le_refl _), hR⟩, by rw [tw_sg1]; omega, by rw [tw_sg2]; omega⟩
        · simp [s87_0, s87_1, s87_2, s87_5, s87_6, s87_7, s87_10, s87_13, s87_14, s87_15, s87_16, s87_19, s87_22, s87_23, s87_25, s87_28, s87_30, s87_31, s87_32, s87_35, s87_36, s87_37, s87_40, s87_41, s87_42, s87_45, s87_46, s87_49, s87_50, s87_51, s87_52, s87_55, s87_56, s87_57, tw_sf, xX, tw_fit, ← hH1, xco g1, es, el, tw_bi_0, q1.2, q2, tw_gf, g1, z0, ← hH2, hri, hax]
        · rw [← hz, hH5]
          simp [s164_0, s164_1, s164_4, s164_7, s164_8, s164_9, s164_12, s164_13, s164_14, s164_15, s164_16, s164_19, s164_22, s164_25, s164_26, s164_28, s164_31, s164_32, s164_34, s164_37, s164_38, s164_39, s164_42, s164_43, s164_44, s164_47, s164_48, s164_49, s164_52, s164_53, s164_54, s164_55, s164_56, s164_59, s164_60, s164_61, s164_62, s164_63, s164_67, s164_68, s164_71, s164_72, s164_75, s164_77, s164_78, s164_79, s164_81, s164_82, s164_83, s164_84, s164_87, s164_90, s164_91, s164_92, s164_95, en, em, tw_bi_0, q1.2, q2, tw_gf, tw_ix, tw_sg, g274, o4 40 (by omega) (by decide), o4 41 (by omega) (by decide), mH.1, mH.2.1, ev, ec]
    · refine two_fl hX hS hM hR 0 a1 a2 a3 (.int (-2)) ?_ ?_
      · by_cases q3 : ¬ lane < 0 ∧ lane < 3
        · have q4 : 60 < n := by
            by_cases z : 60 < n
            · exact z
            · exact absurd ⟨q3, z⟩ q1
          simp only [decide_eq_true q3] at el
          simp [s87_0, s87_1, s87_2, s87_5, s87_6, s87_7, s87_10, s87_13, s87_14, s87_15, s87_16, s87_19, s87_22, s87_23, s87_25, s87_28, s87_30, s87_31, s87_32, s87_35, s87_36, s87_37, s87_40, s87_41, s87_42, s87_45, s87_46, s87_49, s87_50, s87_51, s87_52, s87_55, s87_56, s87_57, tw_sf, xX, tw_fit, ← hH1, xco g1, es, el, tw_bi_0, q4]
        · simp only [decide_eq_false q3] at el
          simp [s87_0, s87_1, s87_2, s87_5, s87_6, s87_7, s87_10, s87_13, s87_14, s87_15, s87_16, s87_19, s87_22, s87_23, s87_25, s87_28, s87_30, s87_31, s87_32, s87_35, s87_36, s87_37, s87_40, s87_41, s87_42, s87_45, s87_46, s87_49, s87_50, s87_51, s87_52, s87_55, s87_56, s87_57, tw_sf, xX, tw_fit, ← hH1, xco g1, es, el, tw_bi_0]
      · by_cases q3 : ¬ lane < 0 ∧ lane < 3
        · have q4 : 60 < n := by
            by_cases z : 60 < n
            · exact z
            · exact absurd ⟨q3, z⟩ q1
          simp only [decide_eq_true q3] at em
          simp [s164_0, s164_1, s164_4, s164_7, s164_8, s164_9, s164_12, s164_13, s164_14, s164_15, s164_16, s164_19, s164_22, s164_25, s164_26, s164_28, s164_31, s164_32, s164_34, s164_37, s164_38, s164_39, s164_42, s164_43, s164_44, s164_47, s164_48, s164_49, s164_52, s164_53, s164_54, s164_55, s164_56, s164_59, s164_60, s164_61, s164_62, s164_63, s164_67, s164_68, s164_71, s164_72, s164_75, s164_77, s164_78, s164_79, s164_81, s164_82, s164_83, s164_84, s164_87, s164_90, s164_91, s164_92, s164_95, en, em, tw_bi_0, q4, mco (gM 0), m_refused (gM 0)]
        · simp only [decide_eq_false q3] at em
          simp [s164_0, s164_1, s164_4, s164_7, s164_8, s164_9, s164_12, s164_13, s164_14, s164_15, s164_16, s164_19, s164_22, s164_25, s164_26, s164_28, s164_31, s164_32, s164_34, s164_37, s164_38, s164_39, s164_42, s164_43, s164_44, s164_47, s164_48, s164_49, s164_52, s164_53, s164_54, s164_55, s164_56, s164_59, s164_60, s164_61, s164_62, s164_63, s164_67, s164_68, s164_71, s164_72, s164_75, s164_77, s164_78, s164_79, s164_81, s164_82, s164_83, s164_84, s164_87, s164_90, s164_91, s164_92, s164_95, en, em, tw_bi_0, mco (gM 0), m_refused (gM 0)]
  · rw [decide_eq_false q] at es
    simp only [decide_eq_false q] at en
    refine two_fl hX hS hM hR 0 a1 a2 a3 (.int (-1)) ?_ ?_
    · simp [s87_0, s87_1, s87_2, s87_5, s87_6, s87_7, s87_10, s87_13, s87_14, s87_15, s87_16, s87_19, s87_22, s87_23, s87_25, s87_28, s87_30, s87_31, s87_32, s87_35, s87_36, s87_37, s87_40, s87_41, s87_42, s87_45, s87_46, s87_49, s87_50, s87_51, s87_52, s87_55, s87_56, s87_57, tw_sf, xX, tw_fit, ← hH1, xco g1, es, tw_bi_0]
    · simp [s164_0, s164_1, s164_4, s164_7, s164_8, s164_9, s164_12, s164_13, s164_14, s164_15, s164_16, s164_19, s164_22, s164_25, s164_26, s164_28, s164_31, s164_32, s164_34, s164_37, s164_38, s164_39, s164_42, s164_43, s164_44, s164_47, s164_48, s164_49, s164_52, s164_53, s164_54, s164_55, s164_56, s164_59, s164_60, s164_61, s164_62, s164_63, s164_67, s164_68, s164_71, s164_72, s164_75, s164_77, s164_78, s164_79, s164_81, s164_82, s164_83, s164_84, s164_87, s164_90, s164_91, s164_92, s164_95, en, tw_bi_0, mco (gM 0), m_refused (gM 0)]
end K2
