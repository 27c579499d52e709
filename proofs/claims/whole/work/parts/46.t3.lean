/-! how the class reads a town, on -/
def twP (K : Nat → Int32) (n : Nat) (A B C : Nat → Int32) : Nat ⊕ (Nat × Nat × (Nat → Int32) × (Nat → Int32) × (Nat → Int32)) := if K 0 = 113 then (match tdP K 6 0 1 A with
  | .inl q => .inl q
  | .inr r => (match wkP K n 8 0 r.2.1 B C with
    | .inl q => .inl q
    | .inr s => .inr (r.1, s.1, r.2.2, s.2.1, s.2.2))) else .inl 0
section T3
variable {h : tw_H} {ti wo : Int32} {p b i n N : Nat} {A B C f : Nat → Int32}
theorem x_works_loop (hb : h.2.2 b = some (iC N f)) (hb6 : 6 < b) (hN : i + n ≤ N) (hN2 : N < 2 ^ 31) : ∀ (d w p : Nat) (B C : Nat → Int32) (v2 v3 : Value) (wo : Int32), w + d = 8 → p ≤ n → (0 < w → wo = nI w) → match wkP (cdK f i n) n d w p B C with
    | .inr r => tw_b 20 2 [.ref 3, .int (nI w), v2, v3] [] (xt h ti wo p b i n A B C) = some (some (.int 1), xt h ti (if r.1 = 0 then wo else nI r.1) n b i n A r.2.1 r.2.2)
    | .inl q => ∃ wo' B' C' x, (x = 0 ∨ (x = 1 ∧ q < n)) ∧ tw_b 20 2 [.ref 3, .int (nI w), v2, v3] [] (xt h ti wo p b i n A B C) = some (some (.int x), xt h ti wo' q b i n A B' C') := by
  intro d
  induction d with
  | zero =>
    intro w p B C v2 v3 wo hw hp hwo
    have e1 : ¬ nI w < nI 8 := nI_nlt (by omega) (by omega)
    have e8 : w = 8 := by omega
    have hrun : tw_b 20 2 [.ref 3, .int (nI w), v2, v3] [] (xt h ti wo p b i n A B C) = some (some (.int 1), xt h ti wo p b i n A B C) := by
      rw [s20_2]
      simp [s20_0, s20_1, s20_3, s20_4, s20_7, s20_8, s20_11, s20_12, s20_13, s20_16, s20_17, s20_20, s20_21, s20_24, s20_25, s20_27, s20_30, s20_33, s20_34, s20_36, s20_39, s20_42, s20_43, s20_46, s20_49, s20_51, s20_52, s20_53, s20_55, s20_58, s20_60, s20_63, s20_64, s20_65, s20_67, s20_70, s20_71, s20_72, s20_74, s20_77, s20_78, s20_79, s20_80, s20_83, s20_84, s20_85, s20_86, s20_87, s20_90, s20_91, s20_92, s20_93, s20_94, s20_95, s20_96, s20_97, s20_100, s20_103, s20_106, s20_107, tw_gf, tw_al, xt_3, xt_5, tw_nI, e1, tw_z_1]
    simp only [wkP]
    by_cases q : p < n
    · rw [if_pos q]
      exact ⟨wo, B, C, 1, Or.inr ⟨rfl, q⟩, hrun⟩
    · rw [if_neg q]
      simp only
      rw [if_neg (by omega), hrun, hwo (by omega), show p = n by omega]
  | succ d ih =>
    intro w p B C v2 v3 wo hw hp hwo
    have e1 : nI w < nI 8 := nI_lt (by omega) (by omega)
    have ev := tw_vi_n (show w < 8 by omega) (by decide)
    have ec := nI_clamp (show w < 2 ^ 31 by omega)
    have en := x_isNext (h := h) (ti := ti) (wo := wo) (A := A) (B := B) (C := C) hb hb6 hN hN2 hp (c := 59) (by decide)
    have ep := x_passes (h := h) (ti := ti) (wo := wo) (A := A) (B := B) (C := C) hb hb6 hN hN2 hp (c := 59) (by decide)
    simp only [wkP]
    by_cases q : w = 0 ∨ cdK f i n p = 59
    · have q' : w = 0 ∨ p < n := by
        rcases q with z | z
        · exact Or.inl z
        · exact Or.inr (cdK_lt z (by decide))
      rw [if_pos q']
      have head : tw_b 20 2 [.ref 3, .int (nI w), v2, v3] [] (xt h ti wo p b i n A B C) = tw_b 20 33 [.ref 3, .int (nI w), v2, v3] [] (xt h ti wo p b i n A B C) := by
        rw [s20_2]
        by_cases q0 : w = 0
        · subst q0
          have e1' : (0 : Int32) < nI 8 := by decide
          simp [s20_3, s20_4, s20_7, s20_8, s20_11, s20_12, s20_13, s20_16, s20_17, s20_20, s20_21, tw_gf, tw_al, xt_3, xt_5, xt_6, tw_nI, e1', nI_0]
        · have q44 : cdK f i n p = 59 := by rcases q with z | z; exact absurd z q0; exact z
          rw [decide_eq_true q44] at en
          have e0 : ¬ nI w = 0 := nI_ne0 (by omega) (by omega)
          simp [s20_3, s20_4, s20_7, s20_8, s20_11, s20_12, s20_13, s20_16, s20_17, s20_20, s20_21, s20_24, s20_25, s20_27, s20_30, tw_gf, tw_al, xt_3, xt_5, xt_6, tw_nI, e1, e0, xt_co, en, tw_bi_0]
      rw [head]
      unfold unW
      by_cases q44 : cdK f i n p = 59
      · rw [if_pos q44] at ep ⊢
        have hp1 := cdK_lt q44 (by decide)
        have ed := x_kind (h := h) (ti := ti) (wo := wo) (A := A) (B := B) (C := C) hb hb6 hN hN2 (show p + 1 ≤ n by omega)
        cases e2 : kdL (cdK f i n (p + 1)) with
        | none =>
          rw [e2] at ed
          simp only at ed ⊢
          refine ⟨wo, B, C, 0, Or.inl rfl, ?_⟩
          simp [s20_0, s20_1, s20_3, s20_4, s20_7, s20_8, s20_11, s20_12, s20_13, s20_16, s20_17, s20_20, s20_21, s20_24, s20_25, s20_27, s20_30, s20_33, s20_34, s20_36, s20_39, s20_42, s20_43, s20_46, s20_49, s20_51, s20_52, s20_53, s20_55, s20_58, s20_60, s20_63, s20_64, s20_65, s20_67, s20_70, s20_71, s20_72, s20_74, s20_77, s20_78, s20_79, s20_80, s20_83, s20_84, s20_85, s20_86, s20_87, s20_90, s20_91, s20_92, s20_93, s20_94, s20_95, s20_96, s20_97, s20_100, s20_103, s20_106, s20_107, xt_co, ep, ed, tw_z_0]
        | some a =>
          rw [e2] at ed
          simp only at ed
          have hp2 := cdK_lt rfl (kdL_in e2).1
          have a9 : ¬ a = -9 := by rcases (kdL_in e2).2 with z | z | z <;> rw [z] <;> decide
          have ed2 := x_digit (h := h) (ti := ti) (wo := wo) (A := A) (B := B) (C := C) hb hb6 hN hN2 (show p + 2 ≤ n by omega) 1 9 (by decide) (by decide)
          rw [show nI 1 = 1 from rfl, show nI 9 = 9 from rfl] at ed2
          simp only
          cases e3 : dgL (cdK f i n (p + 2)) 9 1 with
          | none =>
            rw [show 9 + 1 - 1 = 9 from rfl, e3] at ed2
            simp only at ed2 ⊢
            refine ⟨wo, B, C, 0, Or.inl rfl, ?_⟩
            simp [s20_0, s20_1, s20_3, s20_4, s20_7, s20_8, s20_11, s20_12, s20_13, s20_16, s20_17, s20_20, s20_21, s20_24, s20_25, s20_27, s20_30, s20_33, s20_34, s20_36, s20_39, s20_42, s20_43, s20_46, s20_49, s20_51, s20_52, s20_53, s20_55, s20_58, s20_60, s20_63, s20_64, s20_65, s20_67, s20_70, s20_71, s20_72, s20_74, s20_77, s20_78, s20_79, s20_80, s20_83, s20_84, s20_85, s20_86, s20_87, s20_90, s20_91, s20_92, s20_93, s20_94, s20_95, s20_96, s20_97, s20_100, s20_103, s20_106, s20_107, xt_co, ep, ed, ed2, a9, tw_z_0]
          | some b2 =>
            rw [show 9 + 1 - 1 = 9 from rfl, e3] at ed2
            simp only at ed2 ⊢
            have hb2 := dgL_in _ _ _ e3
            have hp3 := cdK_lt rfl (dig_ne e3 (by decide))
            have b9 : ¬ nI b2 = -9 := nI_ne (by omega) (by decide)
            have step : tw_b 20 33 [.ref 3, .int (nI w), v2, v3] [] (xt h ti wo p b i n A B C) = tw_b 20 2 [.ref 3, .int (nI (w + 1)), .int a, .int (nI b2)] [] (xt h ti (nI (w + 1)) (p + 3) b i n A (upd B w a) (upd C w (nI b2))) := by
              simp [s20_0, s20_1, s20_3, s20_4, s20_7, s20_8, s20_11, s20_12, s20_13, s20_16, s20_17, s20_20, s20_21, s20_24, s20_25, s20_27, s20_30, s20_33, s20_34, s20_36, s20_39, s20_42, s20_43, s20_46, s20_49, s20_51, s20_52, s20_53, s20_55, s20_58, s20_60, s20_63, s20_64, s20_65, s20_67, s20_70, s20_71, s20_72, s20_74, s20_77, s20_78, s20_79, s20_80, s20_83, s20_84, s20_85, s20_86, s20_87, s20_90, s20_91, s20_92, s20_93, s20_94, s20_95, s20_96, s20_97, s20_100, s20_103, s20_106, s20_107, xt_co, ep, ed, ed2, a9, b9, tw_gf, tw_sf, tw_ix, tw_sg, xt_3, xt_5, xt_6, ev, ec, tw_fit, nI_1, xt_s3, xt_s5, xt_s6]
            have i1 := ih (w + 1) (p + 3) (upd B w a) (upd C w (nI b2)) (.int a) (.int (nI b2)) (nI (w + 1)) (by omega) (by omega) (fun _ => rfl)
            rw [step]
            have two := wkP_two (K := cdK f i n) (n := n) d (w + 1) (p + 3) (upd B w a) (upd B w a) (upd C w (nI b2)) (upd C w (nI b2))
            cases e4 : wkP (cdK f i n) n d (w + 1) (p + 3) (upd B w a) (upd C w (nI b2)) with
            | inl q => rw [e4] at i1; exact i1
            | inr r =>
              rw [e4] at i1
              simp only at i1 ⊢
              rw [i1]
              have hr1 : ∀ (d w p : Nat) (B C : Nat → Int32) (r : Nat × (Nat → Int32) × (Nat → Int32)), wkP (cdK f i n) n d w p B C = .inr r → w ≤ r.1 := by
                intro d
                induction d with
                | zero =>
                  intro w p B C r h
                  simp only [wkP] at h
                  by_cases z : p < n
                  · rw [if_pos z] at h; cases h
                  · rw [if_neg z] at h; cases h; exact Nat.le_refl _
                | succ d ih =>
                  intro w p B C r h
                  simp only [wkP] at h
                  by_cases z : w = 0 ∨ p < n
                  · rw [if_pos z] at h
                    cases e : unW (cdK f i n) p with
                    | mk x y =>
                      rw [e] at h
                      cases x with
                      | none => cases h
                      | some v => have := ih (w + 1) y _ _ r h; omega
                  · rw [if_neg z] at h; cases h; exact Nat.le_refl _
              have := hr1 d (w + 1) (p + 3) _ _ r e4
              rw [if_neg (by omega), if_neg (by omega)]
      · rw [if_neg q44] at ep ⊢
        simp only
        refine ⟨wo, B, C, 0, Or.inl rfl, ?_⟩
        simp [s20_0, s20_1, s20_3, s20_4, s20_7, s20_8, s20_11, s20_12, s20_13, s20_16, s20_17, s20_20, s20_21, s20_24, s20_25, s20_27, s20_30, s20_33, s20_34, s20_36, s20_39, s20_42, s20_43, s20_46, s20_49, s20_51, s20_52, s20_53, s20_55, s20_58, s20_60, s20_63, s20_64, s20_65, s20_67, s20_70, s20_71, s20_72, s20_74, s20_77, s20_78, s20_79, s20_80, s20_83, s20_84, s20_85, s20_86, s20_87, s20_90, s20_91, s20_92, s20_93, s20_94, s20_95, s20_96, s20_97, s20_100, s20_103, s20_106, s20_107, xt_co, ep, tw_z_0]
    · have q0 : ¬ w = 0 := fun z => q (Or.inl z)
      have q44 : ¬ cdK f i n p = 59 := fun z => q (Or.inr z)
      have e0 : ¬ nI w = 0 := nI_ne0 (by omega) (by omega)
      rw [decide_eq_false q44] at en
      have hrun : tw_b 20 2 [.ref 3, .int (nI w), v2, v3] [] (xt h ti wo p b i n A B C) = some (some (.int 1), xt h ti wo p b i n A B C) := by
        rw [s20_2]
        simp [s20_0, s20_1, s20_3, s20_4, s20_7, s20_8, s20_11, s20_12, s20_13, s20_16, s20_17, s20_20, s20_21, s20_24, s20_25, s20_27, s20_30, s20_33, s20_34, s20_36, s20_39, s20_42, s20_43, s20_46, s20_49, s20_51, s20_52, s20_53, s20_55, s20_58, s20_60, s20_63, s20_64, s20_65, s20_67, s20_70, s20_71, s20_72, s20_74, s20_77, s20_78, s20_79, s20_80, s20_83, s20_84, s20_85, s20_86, s20_87, s20_90, s20_91, s20_92, s20_93, s20_94, s20_95, s20_96, s20_97, s20_100, s20_103, s20_106, s20_107, tw_gf, tw_al, xt_3, xt_5, xt_6, tw_nI, e1, e0, xt_co, en, tw_bi_0, tw_z_1]
      by_cases qn : p < n
      · rw [if_pos (Or.inr qn)]
        unfold unW
        rw [if_neg q44]
        exact ⟨wo, B, C, 1, Or.inr ⟨rfl, qn⟩, hrun⟩
      · rw [if_neg (by omega)]
        obtain rfl := hwo (by omega)
        simp only
        rw [if_neg q0, hrun, show p = n by omega]
theorem x_isTaken {pl fr si : Int32} {co : Value} (h3 : h.2.2 3 = some (oC 7 [.ref 4, .ref 5, .ref 6, .int ti, .int wo, .int pl, co, .int fr, .int si])) (h4 : h.2.2 4 = some (iC 6 A)) (h5 : h.2.2 5 = some (iC 8 B)) (h6 : h.2.2 6 = some (iC 8 C)) (hb : h.2.2 b = some (iC N f)) (hb6 : 6 < b) (hN : i + n ≤ N) (hN2 : N < 2 ^ 31) : match twP (cdK f i n) n A B C with
    | .inl q => ∃ ti' wo' A' B' C', tw_b 14 0 [.ref 3, .ref b, .int (nI i), .int (nI n)] [] h = some (some (.int 0), xt h ti' wo' q b i n A' B' C')
    | .inr r => tw_b 14 0 [.ref 3, .ref b, .int (nI i), .int (nI n)] [] h = some (some (.int 1), xt h (nI r.1) (nI r.2.1) n b i n r.2.2.1 r.2.2.2.1 r.2.2.2.2) := by
  have ex : tw_set h 3 (tC ti wo (nI 0) b (nI i) (nI n)) = xt h ti wo 0 b i n A B C := by
    unfold xt
    rw [tw_si h h4, tw_si h h5, tw_si h h6]
  have start : tw_b 14 0 [.ref 3, .ref b, .int (nI i), .int (nI n)] [] h = tw_b 14 20 [.ref 3, .ref b, .int (nI i), .int (nI n)] [] (xt h ti wo 0 b i n A B C) := by
    rw [← ex]
    simp [s14_0, s14_1, s14_2, s14_5, s14_6, s14_7, s14_10, s14_11, s14_12, s14_15, s14_16, s14_17, tw_sf, h3, tw_fit, tw_sg, tw_ss, nI_0]
  rw [start]
  have ep := x_passes (h := h) (ti := ti) (wo := wo) (A := A) (B := B) (C := C) hb hb6 hN hN2 (show 0 ≤ n by omega) (c := 113) (by decide)
  unfold twP
  by_cases q1 : cdK f i n 0 = 113
  · rw [if_pos q1] at ep ⊢
    have hp1 := cdK_lt q1 (by decide)
    have et := x_tides_loop (h := h) (wo := wo) (B := B) (C := C) hb hb6 hN hN2 6 0 1 A tw_un tw_un ti (by omega) (by omega) (fun z => by omega)
    have htd := tdP_le (f := f) (i := i) (n := n) 6 0 1 A (by omega)
    rw [nI_0] at et
    cases e1 : tdP (cdK f i n) 6 0 1 A with
    | inl q =>
      rw [e1] at et
      obtain ⟨ti', A', et⟩ := et
      refine ⟨ti', wo, A', B, C, ?_⟩
      simp [s14_20, s14_21, s14_23, s14_26, s14_29, s14_30, s14_33, s14_58, s14_59, xt_co, ep, s18_0, s18_1, et, tw_z_0]
    | inr r =>
      rw [e1] at et
      obtain ⟨_, r2, r3, r4⟩ := htd.2 r e1
      simp only at et ⊢
      rw [if_neg (by have := r4 (by omega); omega)] at et
      have ew := x_works_loop (h := h) (ti := nI r.1) (A := r.2.2) hb hb6 hN hN2 8 0 r.2.1 B C tw_un tw_un wo (by omega) r3 (fun z => by omega)
      rw [nI_0] at ew
      have h0 : ∀ j, j < 0 → B j = B j ∧ C j = C j ∧ (B j = 0 ∨ B j = 1 ∨ B j = 2) := fun j hj => by omega
      have htw := wkP_two (K := cdK f i n) (n := n) 8 0 r.2.1 B B C C h0
      cases e2 : wkP (cdK f i n) n 8 0 r.2.1 B C with
      | inl q =>
        rw [e2] at ew
        obtain ⟨wo', B', C', x, hx, ew⟩ := ew
        refine ⟨nI r.1, wo', r.2.2, B', C', ?_⟩
        rcases hx with rfl | ⟨rfl, hx⟩
        · simp [s14_20, s14_21, s14_23, s14_26, s14_29, s14_30, s14_33, s14_36, s14_37, s14_40, s14_58, s14_59, xt_co, ep, s18_0, s18_1, s20_0, s20_1, et, ew, tw_z_0]
        · have hq : ¬ nI q = nI n := fun z => by
            have := (nI_eq (by omega) (by omega)).mp z
            omega
          simp [s14_20, s14_21, s14_23, s14_26, s14_29, s14_30, s14_33, s14_36, s14_37, s14_40, s14_43, s14_44, s14_47, s14_48, s14_51, s14_58, s14_59, xt_co, ep, s18_0, s18_1, s20_0, s20_1, et, ew, tw_z_0, tw_gf, xt_3, hq]
      | inr s =>
        rw [e2] at ew
        obtain ⟨_, _, s3, _⟩ := htw.2 s e2
        simp only at ew ⊢
        rw [if_neg (by have := s3 (by omega); omega)] at ew
        simp [s14_20, s14_21, s14_23, s14_26, s14_29, s14_30, s14_33, s14_36, s14_37, s14_40, s14_43, s14_44, s14_47, s14_48, s14_51, s14_54, s14_55, s14_59, xt_co, ep, s18_0, s18_1, s20_0, s20_1, et, ew, tw_z_1, tw_gf, xt_3]
  · rw [if_neg q1] at ep ⊢
    refine ⟨ti, wo, A, B, C, ?_⟩
    simp [s14_20, s14_21, s14_23, s14_26, s14_58, s14_59, xt_co, ep, tw_z_0]
end T3
