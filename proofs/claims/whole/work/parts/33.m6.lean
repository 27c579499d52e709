/-! alike, and whether readings are so: the model -/
def mnS (f : Nat → Int32) (hk : Int32) : Nat → Nat → Int32 → Int32 → Bool
  | _, 0, l, m => decide (¬ l < m)
  | s, d + 1, l, m => if hasB hk (nI s) = true then mnS f hk (s + 1) d (if f s < l then f s else l) (if m < f s then f s else m) else mnS f hk (s + 1) d l m
theorem mnS_no {f : Nat → Int32} {hk : Int32} : ∀ (d s : Nat) (l m : Int32), l < m → mnS f hk s d l m = false := by
  intro d
  induction d with
  | zero => intro s l m h; simp [mnS, h]
  | succ d ih =>
    intro s l m h
    simp only [mnS]
    split
    · refine ih _ _ _ ?_
      simp only [Int32.lt_iff_toInt_lt] at h ⊢
      split <;> split <;> simp only [Int32.lt_iff_toInt_lt] at * <;> omega
    · exact ih _ _ _ h
theorem alS_end {f : Nat → Int32} {set : Int32} : ∀ (d s : Nat) (fst : Int32), s + d = 8 → (∀ j, s ≤ j → j < 8 → hasB set (nI j) = false) → alS f set s d fst = true := by
  intro d
  induction d with
  | zero => intro s fst _ _; rfl
  | succ d ih =>
    intro s fst hd h
    simp only [alS]
    rw [h s (by omega) (by omega), if_neg (by decide)]
    exact ih (s + 1) fst (by omega) (fun j h1 h2 => h j (by omega) h2)
theorem mnS_al2 {f : Nat → Int32} {hk : Int32} {nw : Nat} (h8 : nw ≤ 8) (hb : HB nw hk) {p : Nat} (hp : p < 8) : ∀ (d s : Nat), s + d = nw → mnS f hk s d (f p) (f p) = alS f hk s (8 - s) (nI p) := by
  have e1 : ¬ nI p = -1 := nI_ne (by omega) (by decide)
  intro d
  induction d with
  | zero =>
    intro s hd
    rw [alS_end (8 - s) s _ (by omega) (fun j h1 h2 => hb j (by omega) h2)]
    simp [mnS, Int32.lt_irrefl]
  | succ d ih =>
    intro s hd
    rw [show 8 - s = 8 - (s + 1) + 1 by omega]
    simp only [mnS, alS, if_neg e1]
    rw [atF_n hp (by decide)]
    by_cases q : hasB hk (nI s) = true
    · rw [if_pos q, if_pos q]
      by_cases q2 : f s = f p
      · rw [if_pos q2, q2]
        simp only [Int32.lt_irrefl, if_false]
        exact ih (s + 1) (by omega)
      · rw [if_neg q2]
        refine mnS_no _ _ _ _ ?_
        by_cases q3 : f s < f p
        · have q4 : ¬ f p < f s := fun z => Int32.lt_irrefl (Int32.lt_trans q3 z)
          rw [if_pos q3, if_neg q4]; exact q3
        · have q4 : f p < f s := by
            have : ¬ (f s).toInt = (f p).toInt := fun z => q2 (Int32.toInt_inj.mp z)
            rw [Int32.lt_iff_toInt_lt] at q3 ⊢
            omega
          rw [if_neg q3, if_pos q4]; exact q4
    · rw [if_neg q, if_neg q]
      exact ih (s + 1) (by omega)
theorem mnS_al1 {f : Nat → Int32} {hk : Int32} {nw : Nat} (h8 : nw ≤ 8) (hb : HB nw hk) (hf : ∀ j, j < 8 → ∃ c, c ≤ 60 ∧ f j = nI c) : ∀ (d s : Nat), s + d = nw → mnS f hk s d 61 (-1) = alS f hk s (8 - s) (-1) := by
  intro d
  induction d with
  | zero =>
    intro s hd
    rw [alS_end (8 - s) s _ (by omega) (fun j h1 h2 => hb j (by omega) h2)]
    simp [mnS]
  | succ d ih =>
    intro s hd
    obtain ⟨c, c1, c2⟩ := hf s (by omega)
    rw [show 8 - s = 8 - (s + 1) + 1 by omega]
    simp only [mnS, alS, if_true]
    rw [atF_n (show s < 8 by omega) (by decide)]
    have q1 : f s < 61 := by rw [c2]; exact nI_lt (b := 61) (by omega) (by omega)
    have q2 : (-1 : Int32) < f s := by
      rw [c2]
      have := nI_pos (show c < 2 ^ 31 by omega)
      rw [Int32.lt_iff_toInt_lt] at this ⊢
      have z : (0 : Int32).toInt = 0 := rfl
      have z1 : (-1 : Int32).toInt = -1 := rfl
      omega
    by_cases q : hasB hk (nI s) = true
    · rw [if_pos q, if_pos q, if_pos q1, if_pos q2]
      rw [if_pos rfl]
      exact mnS_al2 (f := f) h8 hb (show s < 8 by omega) d (s + 1) (by omega)
    · rw [if_neg q, if_neg q]
      exact ih (s + 1) (by omega)
section M6
variable {h : tw_H} {fl tc hk lw st hg ra rt rw tr : Int32} {nw n nr : Nat} {tf kd wt f34 f35 f : Nat → Int32}
theorem m_al_loop {nr : Int32} (H : MZ h fl tc nw hk lw st hg ra rt rw n nr tr tf kd wt f34 f35) (h8 : nw ≤ 8) (hL : h.2.2 36 = some (iC 8 f)) : ∀ (d s : Nat) (l m : Int32), s + d = nw → tw_b 146 7 [.ref 27, .int l, .int m, .int (nI s)] [] h = some (some (.int (tw_bi (mnS f hk s d l m))), h) := by
  intro d
  induction d with
  | zero =>
    intro s l m hd
    have e : ¬ nI s < nI nw := nI_nlt (by omega) (by omega)
    rw [s146_7]
    by_cases q : l < m <;> simp [s146_0, s146_2, s146_3, s146_4, s146_5, s146_6, s146_8, s146_9, s146_12, s146_15, s146_16, s146_19, s146_20, s146_23, s146_26, s146_27, s146_30, s146_31, s146_32, s146_33, s146_36, s146_37, s146_40, s146_41, s146_42, s146_45, s146_46, s146_47, s146_48, s146_51, s146_52, s146_53, s146_54, s146_57, s146_58, s146_61, s146_62, s146_63, s146_66, s146_67, s146_68, s146_71, s146_74, s146_75, s146_76, s146_79, s146_80, s146_83, s146_84, tw_gf, H.1, e, mnS, q, tw_bi, tw_z_0, tw_z_1]
  | succ d ih =>
    intro s l m hd
    have e : nI s < nI nw := nI_lt (by omega) (by omega)
    have ev := tw_vi_n (show s < 8 by omega) (by decide)
    have ec := nI_clamp (show s < 2 ^ 31 by omega)
    simp only [mnS]
    rw [s146_7]
    by_cases q : hasB hk (nI s) = true
    · rw [if_pos q]
      by_cases q1 : f s < l
      · by_cases q2 : m < f s
        · rw [if_pos q1, if_pos q2, ← ih (s + 1) _ _ (by omega)]
          simp [s146_0, s146_2, s146_3, s146_4, s146_5, s146_6, s146_8, s146_9, s146_12, s146_15, s146_16, s146_19, s146_20, s146_23, s146_26, s146_27, s146_30, s146_31, s146_32, s146_33, s146_36, s146_37, s146_40, s146_41, s146_42, s146_45, s146_46, s146_47, s146_48, s146_51, s146_52, s146_53, s146_54, s146_57, s146_58, s146_61, s146_62, s146_63, s146_66, s146_67, s146_68, s146_71, s146_74, s146_75, s146_76, s146_79, s146_80, s146_83, s146_84, tw_gf, tw_ia, H.1, hL, e, ev, ec, m_isIn, tw_bi_0, q, q1, q2, nI_1]
        · rw [if_pos q1, if_neg q2, ← ih (s + 1) _ _ (by omega)]
          simp [s146_0, s146_2, s146_3, s146_4, s146_5, s146_6, s146_8, s146_9, s146_12, s146_15, s146_16, s146_19, s146_20, s146_23, s146_26, s146_27, s146_30, s146_31, s146_32, s146_33, s146_36, s146_37, s146_40, s146_41, s146_42, s146_45, s146_46, s146_47, s146_48, s146_51, s146_52, s146_53, s146_54, s146_57, s146_58, s146_61, s146_62, s146_63, s146_66, s146_67, s146_68, s146_71, s146_74, s146_75, s146_76, s146_79, s146_80, s146_83, s146_84, tw_gf, tw_ia, H.1, hL, e, ev, ec, m_isIn, tw_bi_0, q, q1, q2, nI_1]
      · by_cases q2 : m < f s
        · rw [if_neg q1, if_pos q2, ← ih (s + 1) _ _ (by omega)]
          simp [s146_0, s146_2, s146_3, s146_4, s146_5, s146_6, s146_8, s146_9, s146_12, s146_15, s146_16, s146_19, s146_20, s146_23, s146_26, s146_27, s146_30, s146_31, s146_32, s146_33, s146_36, s146_37, s146_40, s146_41, s146_42, s146_45, s146_46, s146_47, s146_48, s146_51, s146_52, s146_53, s146_54, s146_57, s146_58, s146_61, s146_62, s146_63, s146_66, s146_67, s146_68, s146_71, s146_74, s146_75, s146_76, s146_79, s146_80, s146_83, s146_84, tw_gf, tw_ia, H.1, hL, e, ev, ec, m_isIn, tw_bi_0, q, q1, q2, nI_1]
        · rw [if_neg q1, if_neg q2, ← ih (s + 1) _ _ (by omega)]
          simp [s146_0, s146_2, s146_3, s146_4, s146_5, s146_6, s146_8, s146_9, s146_12, s146_15, s146_16, s146_19, s146_20, s146_23, s146_26, s146_27, s146_30, s146_31, s146_32, s146_33, s146_36, s146_37, s146_40, s146_41, s146_42, s146_45, s146_46, s146_47, s146_48, s146_51, s146_52, s146_53, s146_54, s146_57, s146_58, s146_61, s146_62, s146_63, s146_66, s146_67, s146_68, s146_71, s146_74, s146_75, s146_76, s146_79, s146_80, s146_83, s146_84, tw_gf, tw_ia, H.1, hL, e, ev, ec, m_isIn, tw_bi_0, q, q1, q2, nI_1]
    · rw [if_neg q, ← ih (s + 1) _ _ (by omega)]
      simp [s146_0, s146_2, s146_3, s146_4, s146_5, s146_6, s146_8, s146_9, s146_12, s146_15, s146_16, s146_19, s146_20, s146_23, s146_26, s146_27, s146_30, s146_31, s146_32, s146_33, s146_36, s146_37, s146_40, s146_41, s146_42, s146_45, s146_46, s146_47, s146_48, s146_51, s146_52, s146_53, s146_54, s146_57, s146_58, s146_61, s146_62, s146_63, s146_66, s146_67, s146_68, s146_71, s146_74, s146_75, s146_76, s146_79, s146_80, s146_83, s146_84, tw_gf, tw_ia, H.1, hL, e, ev, ec, m_isIn, tw_bi_0, q, nI_1]
theorem m_areAlike {nr : Int32} (H : MZ h fl tc nw hk lw st hg ra rt rw n nr tr tf kd wt f34 f35) (h8 : nw ≤ 8) (hb : HB nw hk) (hL : h.2.2 36 = some (iC 8 f)) (hf : ∀ j, j < 8 → ∃ c, c ≤ 60 ∧ f j = nI c) : tw_b 146 0 [.ref 27, tw_un, tw_un, tw_un] [] h = some (some (.int (tw_bi (alS f hk 0 8 (-1)))), h) := by
  have hl := m_al_loop H h8 hL nw 0 61 (-1) (by omega)
  rw [nI_0, mnS_al1 h8 hb hf nw 0 (by omega)] at hl
  simp [s146_0, s146_2, s146_3, s146_4, s146_5, s146_6, s146_8, s146_9, s146_12, s146_15, s146_16, s146_19, s146_20, s146_23, s146_26, s146_27, s146_30, s146_31, s146_32, s146_33, s146_36, s146_37, s146_40, s146_41, s146_42, s146_45, s146_46, s146_47, s146_48, s146_51, s146_52, s146_53, s146_54, s146_57, s146_58, s146_61, s146_62, s146_63, s146_66, s146_67, s146_68, s146_71, s146_74, s146_75, s146_76, s146_79, s146_80, s146_83, s146_84, hl]
theorem addG_bd {set : Int32} {f : Nat → Int32} {s : Nat} (hs : s < 60) (hf : ∀ j, j < 8 → ∃ c, c ≤ s ∧ f j = nI c) : ∀ j, j < 8 → ∃ c, c ≤ s + 1 ∧ fset f (addG set f) 8 j = nI c := fun j hj => by
  obtain ⟨c, c1, c2⟩ := hf j hj
  rw [fset_lt hj]
  unfold addG
  rw [c2]
  split
  · exact ⟨c + 1, by omega, nI_1 c⟩
  · exact ⟨c, by omega, by simp⟩
theorem m_alike_hours {nr : Int32} (H : MZ h fl tc nw hk lw st hg ra rt rw n nr tr tf kd wt f34 f35) (h8 : nw ≤ 8) (hn : n ≤ 7) (hb : HB nw hk) (hT : Tid tc st) (hour v : Int32) : ∀ (d s : Nat) (f : Nat → Int32), s + d = 60 → (∀ j, j < 8 → ∃ c, c ≤ s ∧ f j = nI c) → ∃ f', tw_b 145 18 [.ref 27, .int hour, .int v, .int (nI s)] [] (tw_set h 36 (iC 8 f)) = some (some (.int (akS (stM nw kd wt hg lw hk tc tf n f34 f35 st) hk hour s d f)), tw_set h 36 (iC 8 f')) := by
  intro d
  induction d with
  | zero =>
    intro s f hd _
    have e1 : ¬ nI s < 60 := nI_nlt (b := 60) (by omega) (by omega)
    refine ⟨f, ?_⟩
    rw [s145_18]
    simp [s145_0, s145_1, s145_2, s145_5, s145_6, s145_7, s145_10, s145_11, s145_12, s145_13, s145_16, s145_17, s145_19, s145_21, s145_24, s145_25, s145_26, s145_29, s145_30, s145_31, s145_34, s145_35, s145_38, s145_41, s145_42, s145_43, s145_46, s145_49, s145_51, e1, akS]
  | succ d ih =>
    intro s f hd hf
    have e1 : nI s < 60 := nI_lt (b := 60) (by omega) (by omega)
    have gM := H.set (a := 36) (e := iC 8 f) (by omega)
    have hh := m_goHour gM h8 hn hb hT (f := f) (by simp [tw_sg]) (show s < 60 by omega)
    obtain ⟨g, hg'⟩ : ∃ g, g = fset f (addG (stM nw kd wt hg lw hk tc tf n f34 f35 st (nI s)) f) 8 := ⟨_, rfl⟩
    have hgb : ∀ j, j < 8 → ∃ c, c ≤ s + 1 ∧ g j = nI c := by rw [hg']; exact addG_bd (by omega) hf
    rw [← hg', tw_ss] at hh
    have gM2 := H.set (a := 36) (e := iC 8 g) (by omega)
    have ha := m_areAlike gM2 h8 hb (f := g) (by simp [tw_sg]) (fun j hj => by obtain ⟨c, c1, c2⟩ := hgb j hj; exact ⟨c, by omega, c2⟩)
    obtain ⟨f', ih'⟩ := ih (s + 1) g (by omega) hgb
    simp only [akS]
    rw [← hg', s145_18]
    by_cases q : nI s < hour
    · refine ⟨f', ?_⟩
      rw [if_neg (fun z => z.1 q), ← ih']
      simp [s145_0, s145_1, s145_2, s145_5, s145_6, s145_7, s145_10, s145_11, s145_12, s145_13, s145_16, s145_17, s145_19, s145_21, s145_24, s145_25, s145_26, s145_29, s145_30, s145_31, s145_34, s145_35, s145_38, s145_41, s145_42, s145_43, s145_46, s145_49, s145_51, e1, mco gM.1, hh, q, nI_1]
    · by_cases q2 : alS g hk 0 8 (-1) = true
      · refine ⟨g, ?_⟩
        rw [if_pos ⟨q, q2⟩]
        simp [s145_0, s145_1, s145_2, s145_5, s145_6, s145_7, s145_10, s145_11, s145_12, s145_13, s145_16, s145_17, s145_19, s145_21, s145_24, s145_25, s145_26, s145_29, s145_30, s145_31, s145_34, s145_35, s145_38, s145_41, s145_42, s145_43, s145_46, s145_49, s145_51, e1, mco gM.1, mco gM2.1, hh, ha, tw_bi_0, q, q2, nI_1]
      · refine ⟨f', ?_⟩
        rw [if_neg (fun z => q2 z.2), ← ih']
        simp [s145_0, s145_1, s145_2, s145_5, s145_6, s145_7, s145_10, s145_11, s145_12, s145_13, s145_16, s145_17, s145_19, s145_21, s145_24, s145_25, s145_26, s145_29, s145_30, s145_31, s145_34, s145_35, s145_38, s145_41, s145_42, s145_43, s145_46, s145_49, s145_51, e1, mco gM.1, mco gM2.1, hh, ha, tw_bi_0, q, q2, nI_1]
/-- the model's readings -/
def MR (h : tw_H) (nr : Nat) (rw rh ra : Nat → Int32) : Prop := h.2.2 37 = some (iC 8 rw) ∧ h.2.2 38 = some (iC 8 rh) ∧ h.2.2 39 = some (iC 8 ra) ∧ nr ≤ 8 ∧ ∀ x, x < nr → ∃ k, k < 8 ∧ rw x = nI k
theorem MR.set {rw rh ra : Nat → Int32} (H : MR h nr rw rh ra) {a : Nat} {e : tw_C} (ha : a < 37 ∨ 39 < a) : MR (tw_set h a e) nr rw rh ra := by
  unfold MR at H ⊢
  simp only [tw_sg]
  simpa [show ¬ 37 = a by omega, show ¬ 38 = a by omega, show ¬ 39 = a by omega] using H
theorem m_so_in {r1 r2 r3 : Nat → Int32} (H : MZ h fl tc nw hk lw st hg ra rt rw n (nI nr) tr tf kd wt f34 f35) (hR : MR h nr r1 r2 r3) (hL : h.2.2 36 = some (iC 8 f)) (hr : Int32) : ∀ (d s : Nat) (b : Bool), s + d = nr → tw_b 157 25 [.ref 27, .int (tw_bi b), .int hr, .int (nI s)] [] h = tw_b 157 79 [.ref 27, .int (tw_bi (b && rdS f r1 r2 r3 hr s d)), .int hr, .int (nI nr)] [] h := by
  obtain ⟨R1, R2, R3, R4, R5⟩ := hR
  intro d
  induction d with
  | zero =>
    intro s b hd
    have e : ¬ nI s < nI nr := nI_nlt (by omega) (by omega)
    have hs : s = nr := by omega
    rw [s157_25]
    simp only [s157_0, s157_1, s157_2, s157_3, s157_6, s157_7, s157_9, s157_11, s157_14, s157_15, s157_18, s157_19, s157_20, s157_23, s157_24, s157_26, s157_27, s157_30, s157_33, s157_34, s157_37, s157_38, s157_41, s157_42, s157_43, s157_44, s157_47, s157_48, s157_51, s157_52, s157_55, s157_56, s157_57, s157_58, s157_59, s157_62, s157_63, s157_64, s157_67, s157_68, s157_71, s157_72, s157_73, s157_76, s157_82, s157_85, s157_86, tw_gf, H.1, e, rdS, hs, tw_gf, tw_sf, tw_ia, tw_ix, tw_al, tw_aa, tw_ax, tw_co, tw_sg, tw_sg1, tw_sg2, List.getElem?_cons_zero, List.getElem?_cons_succ, List.set_cons_zero, List.set_cons_succ, List.length_cons, List.length_nil, List.mem_cons, List.mem_singleton, List.not_mem_nil, tw_fit, ne_eq, not_false_eq_true, not_true_eq_false, true_and, and_true, false_and, and_false, or_true, true_or, or_false, false_or, if_true, if_false, ite_true, ite_false, tw_bi_0, tw_bi_1, tw_z_0, tw_z_1, tw_z_bi, Option.bind_some, Option.bind_none, Option.toList_some, Option.toList_none, List.cons_append, List.nil_append, Bool.and_true]
    simp [s157_0, s157_1, s157_2, s157_3, s157_6, s157_7, s157_9, s157_11, s157_14, s157_15, s157_18, s157_19, s157_20, s157_23, s157_24, s157_26, s157_27, s157_30, s157_33, s157_34, s157_37, s157_38, s157_41, s157_42, s157_43, s157_44, s157_47, s157_48, s157_51, s157_52, s157_55, s157_56, s157_57, s157_58, s157_59, s157_62, s157_63, s157_64, s157_67, s157_68, s157_71, s157_72, s157_73, s157_76, s157_82, s157_85, s157_86, Int32.lt_irrefl]
  | succ d ih =>
    intro s b hd
    have e : nI s < nI nr := nI_lt (by omega) (by omega)
    have ev := tw_vi_n (show s < 8 by omega) (by decide)
    have ec := nI_clamp (show s < 2 ^ 31 by omega)
    obtain ⟨k, k1, k2⟩ := R5 s (by omega)
    have ev2 := tw_vi_n (show k < 8 by omega) (by decide)
    have ec2 := nI_clamp (show k < 2 ^ 31 by omega)
    simp only [rdS]
    rw [k2, atF_n k1 (by decide), s157_25]
    cases b with
    | false =>
      have i1 := ih (s + 1) false (by omega)
      rw [Bool.false_and] at i1 ⊢
      rw [← i1]
      simp [s157_0, s157_1, s157_2, s157_3, s157_6, s157_7, s157_9, s157_11, s157_14, s157_15, s157_18, s157_19, s157_20, s157_23, s157_24, s157_26, s157_27, s157_30, s157_33, s157_34, s157_37, s157_38, s157_41, s157_42, s157_43, s157_44, s157_47, s157_48, s157_51, s157_52, s157_55, s157_56, s157_57, s157_58, s157_59, s157_62, s157_63, s157_64, s157_67, s157_68, s157_71, s157_72, s157_73, s157_76, s157_82, s157_85, s157_86, tw_gf, H.1, e, tw_bi_0, nI_1, tw_bi_f]
    | true =>
      by_cases q : r2 s = hr
      · by_cases q2 : f k = r3 s
        · have i1 := ih (s + 1) true (by omega)
          rw [if_pos q, if_pos q2, ← i1]
          simp [s157_0, s157_1, s157_2, s157_3, s157_6, s157_7, s157_9, s157_11, s157_14, s157_15, s157_18, s157_19, s157_20, s157_23, s157_24, s157_26, s157_27, s157_30, s157_33, s157_34, s157_37, s157_38, s157_41, s157_42, s157_43, s157_44, s157_47, s157_48, s157_51, s157_52, s157_55, s157_56, s157_57, s157_58, s157_59, s157_62, s157_63, s157_64, s157_67, s157_68, s157_71, s157_72, s157_73, s157_76, s157_82, s157_85, s157_86, tw_gf, tw_ia, H.1, hL, R1, R2, R3, e, ev, ec, ev2, ec2, k2, tw_bi_0, nI_1, q, q2, tw_bi_t]
        · have i1 := ih (s + 1) false (by omega)
          rw [if_pos q, if_neg q2, Bool.and_false]
          rw [Bool.false_and] at i1
          rw [← i1]
          simp [s157_0, s157_1, s157_2, s157_3, s157_6, s157_7, s157_9, s157_11, s157_14, s157_15, s157_18, s157_19, s157_20, s157_23, s157_24, s157_26, s157_27, s157_30, s157_33, s157_34, s157_37, s157_38, s157_41, s157_42, s157_43, s157_44, s157_47, s157_48, s157_51, s157_52, s157_55, s157_56, s157_57, s157_58, s157_59, s157_62, s157_63, s157_64, s157_67, s157_68, s157_71, s157_72, s157_73, s157_76, s157_82, s157_85, s157_86, tw_gf, tw_ia, H.1, hL, R1, R2, R3, e, ev, ec, ev2, ec2, k2, tw_bi_0, nI_1, q, q2, tw_bi_f]
      · have i1 := ih (s + 1) true (by omega)
        rw [if_neg q, ← i1]
        simp [s157_0, s157_1, s157_2, s157_3, s157_6, s157_7, s157_9, s157_11, s157_14, s157_15, s157_18, s157_19, s157_20, s157_23, s157_24, s157_26, s157_27, s157_30, s157_33, s157_34, s157_37, s157_38, s157_41, s157_42, s157_43, s157_44, s157_47, s157_48, s157_51, s157_52, s157_55, s157_56, s157_57, s157_58, s157_59, s157_62, s157_63, s157_64, s157_67, s157_68, s157_71, s157_72, s157_73, s157_76, s157_82, s157_85, s157_86, tw_gf, tw_ia, H.1, hL, R1, R2, R3, e, ev, ec, ev2, ec2, k2, tw_bi_0, nI_1, q, tw_bi_t]
theorem m_so_loop {r1 r2 r3 : Nat → Int32} (H : MZ h fl tc nw hk lw st hg ra rt rw n (nI nr) tr tf kd wt f34 f35) (h8 : nw ≤ 8) (hn : n ≤ 7) (hb : HB nw hk) (hT : Tid tc st) (hR : MR h nr r1 r2 r3) : ∀ (d s : Nat) (f : Nat → Int32) (v : Value), s + d = 60 → ∃ f', tw_b 157 8 [.ref 27, .int 1, .int (nI s), v] [] (tw_set h 36 (iC 8 f)) = some (some (.int (tw_bi (ftS (stM nw kd wt hg lw hk tc tf n f34 f35 st) r1 r2 r3 nr s d f))), tw_set h 36 (iC 8 f')) := by
  intro d
  induction d with
  | zero =>
    intro s f v hd
    have e1 : ¬ nI s < 60 := nI_nlt (b := 60) (by omega) (by omega)
    refine ⟨f, ?_⟩
    rw [s157_8]
    simp [s157_0, s157_1, s157_2, s157_3, s157_6, s157_7, s157_9, s157_11, s157_14, s157_15, s157_18, s157_19, s157_20, s157_23, s157_24, s157_26, s157_27, s157_30, s157_33, s157_34, s157_37, s157_38, s157_41, s157_42, s157_43, s157_44, s157_47, s157_48, s157_51, s157_52, s157_55, s157_56, s157_57, s157_58, s157_59, s157_62, s157_63, s157_64, s157_67, s157_68, s157_71, s157_72, s157_73, s157_76, s157_79, s157_82, s157_85, s157_86, e1, ftS, tw_z_1, tw_bi]
  | succ d ih =>
    intro s f v hd
    have e1 : nI s < 60 := nI_lt (b := 60) (by omega) (by omega)
    have gM := H.set (a := 36) (e := iC 8 f) (by omega)
    have hh := m_goHour gM h8 hn hb hT (f := f) (by simp [tw_sg]) (show s < 60 by omega)
    obtain ⟨g, hg'⟩ : ∃ g, g = fset f (addG (stM nw kd wt hg lw hk tc tf n f34 f35 st (nI s)) f) 8 := ⟨_, rfl⟩
    rw [← hg', tw_ss] at hh
    have gM2 := H.set (a := 36) (e := iC 8 g) (by omega)
    have gR2 := hR.set (a := 36) (e := iC 8 g) (by omega)
    have hi := m_so_in gM2 gR2 (f := g) (by simp [tw_sg]) (nI s) nr 0 true (by omega)
    rw [nI_0, Bool.true_and, tw_bi_t] at hi
    obtain ⟨f', ih'⟩ := ih (s + 1) g (.int (nI nr)) (by omega)
    simp only [ftS]
    rw [← hg', s157_8]
    by_cases q : rdS g r1 r2 r3 (nI s) 0 nr = true
    · refine ⟨f', ?_⟩
      rw [if_pos q, ← ih']
      rw [q, tw_bi_t] at hi
      simp [s157_0, s157_1, s157_2, s157_3, s157_6, s157_7, s157_9, s157_11, s157_14, s157_15, s157_18, s157_19, s157_20, s157_23, s157_24, s157_26, s157_27, s157_30, s157_33, s157_34, s157_37, s157_38, s157_41, s157_42, s157_43, s157_44, s157_47, s157_48, s157_51, s157_52, s157_55, s157_56, s157_57, s157_58, s157_59, s157_62, s157_63, s157_64, s157_67, s157_68, s157_71, s157_72, s157_73, s157_76, s157_79, s157_82, s157_85, s157_86, e1, mco gM.1, hh, hi, nI_1]
    · refine ⟨g, ?_⟩
      rw [if_neg q]
      have q' : rdS g r1 r2 r3 (nI s) 0 nr = false := by simpa using q
      rw [q', tw_bi_f] at hi
      rw [tw_bi_f]
      by_cases q2 : nI s + 1 < 60
      · simp [s157_0, s157_1, s157_2, s157_3, s157_6, s157_7, s157_9, s157_11, s157_14, s157_15, s157_18, s157_19, s157_20, s157_23, s157_24, s157_26, s157_27, s157_30, s157_33, s157_34, s157_37, s157_38, s157_41, s157_42, s157_43, s157_44, s157_47, s157_48, s157_51, s157_52, s157_55, s157_56, s157_57, s157_58, s157_59, s157_62, s157_63, s157_64, s157_67, s157_68, s157_71, s157_72, s157_73, s157_76, s157_79, s157_82, s157_85, s157_86, e1, mco gM.1, hh, hi, s157_8, q2, tw_z_0]
      · simp [s157_0, s157_1, s157_2, s157_3, s157_6, s157_7, s157_9, s157_11, s157_14, s157_15, s157_18, s157_19, s157_20, s157_23, s157_24, s157_26, s157_27, s157_30, s157_33, s157_34, s157_37, s157_38, s157_41, s157_42, s157_43, s157_44, s157_47, s157_48, s157_51, s157_52, s157_55, s157_56, s157_57, s157_58, s157_59, s157_62, s157_63, s157_64, s157_67, s157_68, s157_71, s157_72, s157_73, s157_76, s157_79, s157_82, s157_85, s157_86, e1, mco gM.1, hh, hi, s157_8, q2, tw_z_0]
theorem m_areSo {r1 r2 r3 : Nat → Int32} (H : MZ h fl tc nw hk lw st hg ra rt rw n (nI nr) tr tf kd wt f34 f35) (h8 : nw ≤ 8) (hn : n ≤ 7) (hb : HB nw hk) (hT : Tid tc st) (hR : MR h nr r1 r2 r3) (hL : h.2.2 36 = some (iC 8 f)) : ∃ f', tw_b 157 0 [.ref 27, tw_un, tw_un, tw_un] [] h = some (some (.int (tw_bi (ftZ (stM nw kd wt hg lw hk tc tf n f34 f35 st) r1 r2 r3 nr))), tw_set h 36 (iC 8 f')) := by
  obtain ⟨f', hl⟩ := m_so_loop H h8 hn hb hT hR 60 0 (fset f (fun _ => 0) 8) tw_un (by omega)
  rw [nI_0] at hl
  refine ⟨f', ?_⟩
  rw [← ftF_ftZ _ _ _ _ _ f]
  simp [s157_0, s157_1, s157_2, s157_3, s157_6, s157_7, s157_9, s157_11, s157_14, s157_15, s157_18, s157_19, s157_20, s157_23, s157_24, s157_26, s157_27, s157_30, s157_33, s157_34, s157_37, s157_38, s157_41, s157_42, s157_43, s157_44, s157_47, s157_48, s157_51, s157_52, s157_55, s157_56, s157_57, s157_58, s157_59, s157_62, s157_63, s157_64, s157_67, s157_68, s157_71, s157_72, s157_73, s157_76, s157_82, s157_85, s157_86, mco H.1, m_begin H hL, hl, ftF]
end M6
