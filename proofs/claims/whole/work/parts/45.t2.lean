/-! how the class reads a town -/
abbrev tC (ti wo pl : Int32) (b : Nat) (fr si : Int32) : tw_C := oC 7 [.ref 4, .ref 5, .ref 6, .int ti, .int wo, .int pl, .ref b, .int fr, .int si]
def xt (h : tw_H) (ti wo : Int32) (p b i n : Nat) (A B C : Nat → Int32) : tw_H := tw_set (tw_set (tw_set (tw_set h 4 (iC 6 A)) 5 (iC 8 B)) 6 (iC 8 C)) 3 (tC ti wo (nI p) b (nI i) (nI n))
section T2
variable {h : tw_H} {ti wo : Int32} {p b i n N : Nat} {A B C f : Nat → Int32}
theorem xt_3 : (xt h ti wo p b i n A B C).2.2 3 = some (tC ti wo (nI p) b (nI i) (nI n)) := by simp [xt, tw_sg]
theorem xt_4 : (xt h ti wo p b i n A B C).2.2 4 = some (iC 6 A) := by simp [xt, tw_sg]
theorem xt_5 : (xt h ti wo p b i n A B C).2.2 5 = some (iC 8 B) := by simp [xt, tw_sg]
theorem xt_6 : (xt h ti wo p b i n A B C).2.2 6 = some (iC 8 C) := by simp [xt, tw_sg]
theorem xt_o {j : Nat} (hj : j < 3 ∨ 6 < j) : (xt h ti wo p b i n A B C).2.2 j = h.2.2 j := by
  simp [xt, tw_sg, show ¬ j = 3 by omega, show ¬ j = 4 by omega, show ¬ j = 5 by omega, show ¬ j = 6 by omega]
theorem xt_s3 {ti' wo' : Int32} {p' : Nat} : tw_set (xt h ti wo p b i n A B C) 3 (tC ti' wo' (nI p') b (nI i) (nI n)) = xt h ti' wo' p' b i n A B C := by
  unfold xt; rw [tw_ss]
theorem xt_s4 {A' : Nat → Int32} : tw_set (xt h ti wo p b i n A B C) 4 (iC 6 A') = xt h ti wo p b i n A' B C := by
  unfold xt
  rw [tw_sc _ _ _ (show (3 : Nat) ≠ 4 by decide), tw_sc _ _ _ (show (6 : Nat) ≠ 4 by decide), tw_sc _ _ _ (show (5 : Nat) ≠ 4 by decide), tw_ss]
theorem xt_s5 {B' : Nat → Int32} : tw_set (xt h ti wo p b i n A B C) 5 (iC 8 B') = xt h ti wo p b i n A B' C := by
  unfold xt
  rw [tw_sc _ _ _ (show (3 : Nat) ≠ 5 by decide), tw_sc _ _ _ (show (6 : Nat) ≠ 5 by decide), tw_ss]
theorem xt_s6 {C' : Nat → Int32} : tw_set (xt h ti wo p b i n A B C) 6 (iC 8 C') = xt h ti wo p b i n A B C' := by
  unfold xt
  rw [tw_sc _ _ _ (show (3 : Nat) ≠ 6 by decide), tw_ss]
theorem xt_co : tw_co (xt h ti wo p b i n A B C) 3 = some 7 := by simp [tw_co, xt_3]
theorem x_isNext (hb : h.2.2 b = some (iC N f)) (hb6 : 6 < b) (hN : i + n ≤ N) (hN2 : N < 2 ^ 31) (hp : p ≤ n) {c : Int32} (hc : c ≠ -9) : tw_b 16 0 [.ref 3, .int c] [] (xt h ti wo p b i n A B C) = some (some (.int (tw_bi (decide (cdK f i n p = c)))), xt h ti wo p b i n A B C) := by
  have gb : (xt h ti wo p b i n A B C).2.2 b = some (iC N f) := by rw [xt_o (by omega)]; exact hb
  unfold cdK
  by_cases q : p < n
  · have e1 : nI p < nI n := nI_lt q (by omega)
    have ea := x_at (nI i + nI p) gb hN2
    rw [nI_add, atF_n (by omega) hN2] at ea
    by_cases q2 : f (i + p) = c
    · simp [s16_0, s16_1, s16_4, s16_4n, s16_7, s16_8, s16_11, s16_12, s16_15, s16_18, s16_19, s16_22, s16_23, s16_26, s16_27, s16_30, s16_31, s16_31n, s16_34, s16_35, s16_38, s16_39, s16_42, s16_43, tw_gf, xt_3, e1, nI_add, ea, q, q2, tw_z_1, tw_bi]
    · simp [s16_0, s16_1, s16_4, s16_4n, s16_7, s16_8, s16_11, s16_12, s16_15, s16_18, s16_19, s16_22, s16_23, s16_26, s16_27, s16_30, s16_31, s16_31n, s16_34, s16_35, s16_38, s16_39, s16_42, s16_43, tw_gf, xt_3, e1, nI_add, ea, q, q2, tw_z_0, tw_bi]
  · have e1 : ¬ nI p < nI n := nI_nlt (by omega) (by omega)
    simp [s16_0, s16_1, s16_4, s16_4n, s16_7, s16_8, s16_11, s16_12, s16_15, s16_18, s16_19, s16_22, s16_23, s16_26, s16_27, s16_30, s16_31, s16_31n, s16_34, s16_35, s16_38, s16_39, s16_42, s16_43, tw_gf, xt_3, e1, q, hc.symm, tw_z_0, tw_bi]
theorem x_passes (hb : h.2.2 b = some (iC N f)) (hb6 : 6 < b) (hN : i + n ≤ N) (hN2 : N < 2 ^ 31) (hp : p ≤ n) {c : Int32} (hc : c ≠ -9) : tw_b 15 0 [.ref 3, .int c] [] (xt h ti wo p b i n A B C) = if cdK f i n p = c then some (some (.int 1), xt h ti wo (p + 1) b i n A B C) else some (some (.int 0), xt h ti wo p b i n A B C) := by
  have e := x_isNext (h := h) (ti := ti) (wo := wo) (A := A) (B := B) (C := C) hb hb6 hN hN2 hp hc
  by_cases q : cdK f i n p = c
  · rw [decide_eq_true q] at e
    rw [if_pos q]
    simp [s15_0, s15_1, s15_2, s15_5, s15_8, s15_9, s15_10, s15_11, s15_12, s15_15, s15_16, s15_17, s15_20, s15_21, xt_co, e, tw_bi_0, tw_gf, tw_sf, xt_3, tw_fit, tw_z_1, nI_1, xt_s3]
  · rw [decide_eq_false q] at e
    rw [if_neg q]
    simp [s15_0, s15_1, s15_2, s15_5, s15_8, s15_9, s15_10, s15_11, s15_12, s15_15, s15_16, s15_17, s15_20, s15_21, xt_co, e, tw_bi_0, tw_z_0]
theorem x_dig_loop (hb : h.2.2 b = some (iC N f)) (hb6 : 6 < b) (hN : i + n ≤ N) (hN2 : N < 2 ^ 31) (hp : p ≤ n) (lo hi : Nat) (hi9 : hi ≤ 9) : ∀ (d s : Nat), s + d = hi + 1 → tw_b 19 2 [.ref 3, .int (nI lo), .int (nI hi), .int (nI s)] [] (xt h ti wo p b i n A B C) = match dgL (cdK f i n p) d s with
    | some v => some (some (.int (nI v)), xt h ti wo (p + 1) b i n A B C)
    | none => some (some (.int (-9)), xt h ti wo p b i n A B C) := by
  intro d
  induction d with
  | zero =>
    intro s hd
    have e1 : nI hi < nI s := nI_lt (by omega) (by omega)
    rw [s19_2]
    simp [s19_0, s19_1, s19_3, s19_4, s19_7, s19_8, s19_10, s19_11, s19_12, s19_15, s19_18, s19_19, s19_20, s19_23, s19_26, s19_28, e1, dgL]
  | succ d ih =>
    intro s hd
    have e1 : ¬ nI hi < nI s := nI_nlt (by omega) (by omega)
    have e2 : (48 : Int32) + nI s = nI (48 + s) := nI_add 48 s
    have ep := x_passes (h := h) (ti := ti) (wo := wo) (A := A) (B := B) (C := C) hb hb6 hN hN2 hp (c := nI (48 + s)) (nI_ne (by omega) (by decide))
    simp only [dgL]
    rw [s19_2]
    by_cases q : cdK f i n p = nI (48 + s)
    · rw [if_pos q] at ep ⊢
      simp [s19_0, s19_1, s19_3, s19_4, s19_7, s19_8, s19_10, s19_11, s19_12, s19_15, s19_18, s19_19, s19_20, s19_23, s19_26, s19_28, e1, e2, xt_co, ep]
    · rw [if_neg q] at ep ⊢
      rw [← ih (s + 1) (by omega)]
      simp [s19_0, s19_1, s19_3, s19_4, s19_7, s19_8, s19_10, s19_11, s19_12, s19_15, s19_18, s19_19, s19_20, s19_23, s19_26, s19_28, e1, e2, xt_co, ep, nI_1]
theorem x_digit (hb : h.2.2 b = some (iC N f)) (hb6 : 6 < b) (hN : i + n ≤ N) (hN2 : N < 2 ^ 31) (hp : p ≤ n) (lo hi : Nat) (hi9 : hi ≤ 9) (hlo : lo ≤ hi) : tw_b 19 0 [.ref 3, .int (nI lo), .int (nI hi), tw_un] [] (xt h ti wo p b i n A B C) = match dgL (cdK f i n p) (hi + 1 - lo) lo with
    | some v => some (some (.int (nI v)), xt h ti wo (p + 1) b i n A B C)
    | none => some (some (.int (-9)), xt h ti wo p b i n A B C) := by
  have hl := x_dig_loop (h := h) (ti := ti) (wo := wo) (A := A) (B := B) (C := C) hb hb6 hN hN2 hp lo hi hi9 (hi + 1 - lo) lo (by omega)
  rw [← hl]
  simp [s19_0, s19_1, s19_3, s19_4, s19_7, s19_8, s19_10, s19_11, s19_12, s19_15, s19_18, s19_19, s19_20, s19_23, s19_26, s19_28]
theorem x_kind (hb : h.2.2 b = some (iC N f)) (hb6 : 6 < b) (hN : i + n ≤ N) (hN2 : N < 2 ^ 31) (hp : p ≤ n) : tw_b 21 0 [.ref 3] [] (xt h ti wo p b i n A B C) = match kdL (cdK f i n p) with
    | some v => some (some (.int v), xt h ti wo (p + 1) b i n A B C)
    | none => some (some (.int (-9)), xt h ti wo p b i n A B C) := by
  have e1 := x_passes (h := h) (ti := ti) (wo := wo) (A := A) (B := B) (C := C) hb hb6 hN hN2 hp (c := 119) (by decide)
  have e2 := x_passes (h := h) (ti := ti) (wo := wo) (A := A) (B := B) (C := C) hb hb6 hN hN2 hp (c := 98) (by decide)
  have e3 := x_passes (h := h) (ti := ti) (wo := wo) (A := A) (B := B) (C := C) hb hb6 hN hN2 hp (c := 115) (by decide)
  unfold kdL
  by_cases q1 : cdK f i n p = 119
  · rw [if_pos q1] at e1 ⊢
    simp [s21_0, s21_1, s21_3, s21_6, s21_9, s21_10, s21_13, s21_14, s21_16, s21_19, s21_22, s21_23, s21_26, s21_27, s21_29, s21_32, s21_35, s21_36, s21_39, s21_41, xt_co, e1]
  · rw [if_neg q1] at e1 ⊢
    by_cases q2 : cdK f i n p = 98
    · rw [if_pos q2] at e2 ⊢
      simp [s21_0, s21_1, s21_3, s21_6, s21_9, s21_10, s21_13, s21_14, s21_16, s21_19, s21_22, s21_23, s21_26, s21_27, s21_29, s21_32, s21_35, s21_36, s21_39, s21_41, xt_co, e1, e2]
    · rw [if_neg q2] at e2 ⊢
      by_cases q3 : cdK f i n p = 115
      · rw [if_pos q3] at e3 ⊢
        simp [s21_0, s21_1, s21_3, s21_6, s21_9, s21_10, s21_13, s21_14, s21_16, s21_19, s21_22, s21_23, s21_26, s21_27, s21_29, s21_32, s21_35, s21_36, s21_39, s21_41, xt_co, e1, e2, e3]
      · rw [if_neg q3] at e3 ⊢
        simp [s21_0, s21_1, s21_3, s21_6, s21_9, s21_10, s21_13, s21_14, s21_16, s21_19, s21_22, s21_23, s21_26, s21_27, s21_29, s21_32, s21_35, s21_36, s21_39, s21_41, xt_co, e1, e2, e3]
theorem dig_ne {x : Int32} {d s v : Nat} (e : dgL x d s = some v) (hd : s + d < 2 ^ 30) : x ≠ -9 := by
  obtain ⟨_, h2, h3⟩ := dgL_in _ _ _ e
  rw [h3]
  exact nI_ne (by omega) (by decide)
theorem x_tides_loop (hb : h.2.2 b = some (iC N f)) (hb6 : 6 < b) (hN : i + n ≤ N) (hN2 : N < 2 ^ 31) : ∀ (d t p : Nat) (A : Nat → Int32) (v2 v3 : Value) (ti : Int32), t + d = 6 → p ≤ n → (0 < t → ti = nI t) → match tdP (cdK f i n) d t p A with
    | .inr r => tw_b 18 2 [.ref 3, .int (nI t), v2, v3] [] (xt h ti wo p b i n A B C) = some (some (.int 1), xt h (if r.1 = 0 then ti else nI r.1) wo r.2.1 b i n r.2.2 B C)
    | .inl q => ∃ ti' A', tw_b 18 2 [.ref 3, .int (nI t), v2, v3] [] (xt h ti wo p b i n A B C) = some (some (.int 0), xt h ti' wo q b i n A' B C) := by
  intro d
  induction d with
  | zero =>
    intro t p A v2 v3 ti ht hp hti
    have e1 : ¬ nI t < nI 6 := nI_nlt (by omega) (by omega)
    have hti' : (if t = 0 then ti else nI t) = ti := by
      by_cases z : t = 0
      · rw [if_pos z]
      · rw [if_neg z]; exact (hti (by omega)).symm
    simp only [tdP]
    rw [s18_2, hti']
    simp [s18_0, s18_1, s18_3, s18_4, s18_7, s18_8, s18_11, s18_12, s18_15, s18_16, s18_18, s18_21, s18_24, s18_25, s18_27, s18_30, s18_33, s18_34, s18_35, s18_36, s18_39, s18_42, s18_44, s18_45, s18_46, s18_48, s18_51, s18_53, s18_56, s18_57, s18_58, s18_60, s18_63, s18_64, s18_65, s18_67, s18_70, s18_71, s18_72, s18_73, s18_76, s18_77, s18_79, s18_80, s18_81, s18_82, s18_83, s18_84, s18_85, s18_86, s18_87, s18_88, s18_91, s18_94, s18_97, s18_98, tw_gf, tw_al, xt_3, xt_4, tw_nI, e1, tw_z_1]
  | succ d ih =>
    intro t p A v2 v3 ti ht hp hti
    have e1 : nI t < nI 6 := nI_lt (by omega) (by omega)
    have ev := tw_vi_n (show t < 6 by omega) (by decide)
    have ec := nI_clamp (show t < 2 ^ 31 by omega)
    have en := x_isNext (h := h) (ti := ti) (wo := wo) (A := A) (B := B) (C := C) hb hb6 hN hN2 hp (c := 44) (by decide)
    have ep := x_passes (h := h) (ti := ti) (wo := wo) (A := A) (B := B) (C := C) hb hb6 hN hN2 hp (c := 44) (by decide)
    simp only [tdP]
    by_cases q : t = 0 ∨ cdK f i n p = 44
    · rw [if_pos q]
      have head : tw_b 18 2 [.ref 3, .int (nI t), v2, v3] [] (xt h ti wo p b i n A B C) = tw_b 18 24 [.ref 3, .int (nI t), v2, v3] [] (xt h ti wo p b i n A B C) := by
        rw [s18_2]
        by_cases q0 : t = 0
        · subst q0
          have e1' : (0 : Int32) < nI 6 := by decide
          simp [s18_3, s18_4, s18_7, s18_8, s18_11, s18_12, tw_gf, tw_al, xt_3, xt_4, tw_nI, e1', nI_0]
        · have q44 : cdK f i n p = 44 := by rcases q with z | z; exact absurd z q0; exact z
          rw [decide_eq_true q44] at en
          have e0 : ¬ nI t = 0 := nI_ne0 (by omega) (by omega)
          simp [s18_3, s18_4, s18_7, s18_8, s18_11, s18_12, s18_15, s18_16, s18_18, s18_21, tw_gf, tw_al, xt_3, xt_4, tw_nI, e1, e0, xt_co, en, tw_bi_0]
      rw [head]
      unfold unT
      by_cases q44 : cdK f i n p = 44
      · rw [if_pos q44] at ep ⊢
        have hp1 := cdK_lt q44 (by decide)
        have ed := x_digit (h := h) (ti := ti) (wo := wo) (A := A) (B := B) (C := C) hb hb6 hN hN2 (show p + 1 ≤ n by omega) 0 5 (by decide) (by decide)
        rw [nI_0, show nI 5 = 5 from rfl] at ed
        cases e2 : dgL (cdK f i n (p + 1)) 6 0 with
        | none =>
          rw [e2] at ed
          simp only at ed ⊢
          refine ⟨ti, A, ?_⟩
          simp [s18_0, s18_1, s18_3, s18_4, s18_7, s18_8, s18_11, s18_12, s18_15, s18_16, s18_18, s18_21, s18_24, s18_25, s18_27, s18_30, s18_33, s18_34, s18_35, s18_36, s18_39, s18_42, s18_44, s18_45, s18_46, s18_48, s18_51, s18_53, s18_56, s18_57, s18_58, s18_60, s18_63, s18_64, s18_65, s18_67, s18_70, s18_71, s18_72, s18_73, s18_76, s18_77, s18_79, s18_80, s18_81, s18_82, s18_83, s18_84, s18_85, s18_86, s18_87, s18_88, s18_91, s18_94, s18_97, s18_98, xt_co, ep, ed, tw_z_0]
        | some a =>
          rw [e2] at ed
          simp only at ed
          have hp2 := cdK_lt rfl (dig_ne e2 (by decide))
          have ha := dgL_in _ _ _ e2
          have a9 : ¬ nI a = -9 := nI_ne (by omega) (by decide)
          have ed2 := x_digit (h := h) (ti := ti) (wo := wo) (A := A) (B := B) (C := C) hb hb6 hN hN2 (show p + 2 ≤ n by omega) 0 9 (by decide) (by decide)
          rw [nI_0, show nI 9 = 9 from rfl] at ed2
          simp only
          cases e3 : dgL (cdK f i n (p + 2)) 10 0 with
          | none =>
            rw [e3] at ed2
            simp only at ed2 ⊢
            refine ⟨ti, A, ?_⟩
            simp [s18_0, s18_1, s18_3, s18_4, s18_7, s18_8, s18_11, s18_12, s18_15, s18_16, s18_18, s18_21, s18_24, s18_25, s18_27, s18_30, s18_33, s18_34, s18_35, s18_36, s18_39, s18_42, s18_44, s18_45, s18_46, s18_48, s18_51, s18_53, s18_56, s18_57, s18_58, s18_60, s18_63, s18_64, s18_65, s18_67, s18_70, s18_71, s18_72, s18_73, s18_76, s18_77, s18_79, s18_80, s18_81, s18_82, s18_83, s18_84, s18_85, s18_86, s18_87, s18_88, s18_91, s18_94, s18_97, s18_98, xt_co, ep, ed, ed2, a9, tw_z_0]
          | some b2 =>
            rw [e3] at ed2
            simp only at ed2 ⊢
            have hb2 := dgL_in _ _ _ e3
            have hp3 := cdK_lt rfl (dig_ne e3 (by decide))
            have b9 : ¬ nI b2 = -9 := nI_ne (by omega) (by decide)
            have step : tw_b 18 24 [.ref 3, .int (nI t), v2, v3] [] (xt h ti wo p b i n A B C) = tw_b 18 2 [.ref 3, .int (nI (t + 1)), .int (nI a), .int (nI b2)] [] (xt h (nI (t + 1)) wo (p + 3) b i n (upd A t (10 * nI a + nI b2)) B C) := by
              simp [s18_0, s18_1, s18_3, s18_4, s18_7, s18_8, s18_11, s18_12, s18_15, s18_16, s18_18, s18_21, s18_24, s18_25, s18_27, s18_30, s18_33, s18_34, s18_35, s18_36, s18_39, s18_42, s18_44, s18_45, s18_46, s18_48, s18_51, s18_53, s18_56, s18_57, s18_58, s18_60, s18_63, s18_64, s18_65, s18_67, s18_70, s18_71, s18_72, s18_73, s18_76, s18_77, s18_79, s18_80, s18_81, s18_82, s18_83, s18_84, s18_85, s18_86, s18_87, s18_88, s18_91, s18_94, s18_97, s18_98, xt_co, ep, ed, ed2, a9, b9, tw_gf, tw_sf, tw_ix, tw_sg, xt_3, xt_4, ev, ec, tw_fit, nI_1, xt_s3, xt_s4]
            have i1 := ih (t + 1) (p + 3) (upd A t (10 * nI a + nI b2)) (.int (nI a)) (.int (nI b2)) (nI (t + 1)) (by omega) (by omega) (fun _ => rfl)
            rw [step]
            cases e4 : tdP (cdK f i n) d (t + 1) (p + 3) (upd A t (10 * nI a + nI b2)) with
            | inl q => rw [e4] at i1; exact i1
            | inr r =>
              rw [e4] at i1
              simp only at i1 ⊢
              rw [i1]
              have := ((tdP_le (f := f) (i := i) (n := n) d (t + 1) (p + 3) (upd A t (10 * nI a + nI b2)) (by omega)).2 r e4).1
              rw [if_neg (by omega), if_neg (by omega)]
      · rw [if_neg q44] at ep ⊢
        simp only
        refine ⟨ti, A, ?_⟩
        simp [s18_0, s18_1, s18_3, s18_4, s18_7, s18_8, s18_11, s18_12, s18_15, s18_16, s18_18, s18_21, s18_24, s18_25, s18_27, s18_30, s18_33, s18_34, s18_35, s18_36, s18_39, s18_42, s18_44, s18_45, s18_46, s18_48, s18_51, s18_53, s18_56, s18_57, s18_58, s18_60, s18_63, s18_64, s18_65, s18_67, s18_70, s18_71, s18_72, s18_73, s18_76, s18_77, s18_79, s18_80, s18_81, s18_82, s18_83, s18_84, s18_85, s18_86, s18_87, s18_88, s18_91, s18_94, s18_97, s18_98, xt_co, ep, tw_z_0]
    · rw [if_neg q]
      have q0 : ¬ t = 0 := fun z => q (Or.inl z)
      have q44 : ¬ cdK f i n p = 44 := fun z => q (Or.inr z)
      have e0 : ¬ nI t = 0 := nI_ne0 (by omega) (by omega)
      rw [decide_eq_false q44] at en
      simp only
      obtain rfl := hti (by omega)
      rw [if_neg q0, s18_2]
      simp [s18_0, s18_1, s18_3, s18_4, s18_7, s18_8, s18_11, s18_12, s18_15, s18_16, s18_18, s18_21, s18_24, s18_25, s18_27, s18_30, s18_33, s18_34, s18_35, s18_36, s18_39, s18_42, s18_44, s18_45, s18_46, s18_48, s18_51, s18_53, s18_56, s18_57, s18_58, s18_60, s18_63, s18_64, s18_65, s18_67, s18_70, s18_71, s18_72, s18_73, s18_76, s18_77, s18_79, s18_80, s18_81, s18_82, s18_83, s18_84, s18_85, s18_86, s18_87, s18_88, s18_91, s18_94, s18_97, s18_98, tw_gf, tw_al, xt_3, xt_4, tw_nI, e1, e0, xt_co, en, tw_bi_0, tw_z_1]
end T2
