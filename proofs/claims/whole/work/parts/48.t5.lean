/-! how the model reads a town, on -/
section T5
variable {h : tw_H} {fl tc wc hk lw st hg ra rt rw ns nr tr : Int32} {p b i n : Nat} {A B C sf : Nat → Int32}
theorem m_tides_loop (hs : h.2.2 42 = some (iC 240 sf)) (hb : b + n ≤ 240) : ∀ (d t p : Nat) (A : Nat → Int32), t + d = 6 → p ≤ n → match tdP (cdK sf b n) d t p A with
    | .inl q => ∃ rt' A', tw_b 116 50 [.ref 27, .int (nI b), .int (nI n), .int 1] [] (mt h (mC fl tc wc hk lw st hg (nI p) (nI t) rw ns nr tr) A B C) = tw_b 116 82 [.ref 27, .int (nI b), .int (nI n), .int 0] [] (mt h (mC fl tc wc hk lw st hg (nI q) rt' rw ns nr tr) A' B C)
    | .inr r => ∃ x, (x = 1 ∨ (x = 0 ∧ cdK sf b n r.2.1 = 44)) ∧ tw_b 116 50 [.ref 27, .int (nI b), .int (nI n), .int 1] [] (mt h (mC fl tc wc hk lw st hg (nI p) (nI t) rw ns nr tr) A B C) = tw_b 116 82 [.ref 27, .int (nI b), .int (nI n), .int x] [] (mt h (mC fl tc wc hk lw st hg (nI r.2.1) (nI r.1) rw ns nr tr) r.2.2 B C) := by
  intro d
  induction d with
  | zero =>
    intro t p A ht hp
    have e6 : t = 6 := by omega
    subst e6
    have e0 : ¬ nI 6 = 0 := by decide
    have ec := m_codeAt (fl := fl) (tc := tc) (wc := wc) (hk := hk) (lw := lw) (st := st) (hg := hg) (rt := nI 6) (rw := rw) (ns := ns) (nr := nr) (tr := tr) (A := A) (B := B) (C := C) hs hb hp
    simp only [tdP]
    by_cases q : cdK sf b n p = 44
    · refine ⟨0, Or.inr ⟨rfl, q⟩, ?_⟩
      have er : tw_b 118 0 [.ref 27, .int (nI b), .int (nI n), tw_un, tw_un] [] (mt h (mC fl tc wc hk lw st hg (nI p) (nI 6) rw ns nr tr) A B C) = some (some (.int 0), mt h (mC fl tc wc hk lw st hg (nI p) (nI 6) rw ns nr tr) A B C) := by
        simp [s118_0, s118_1, s118_4, s118_6, s118_9, s118_10, s118_11, s118_12, s118_15, s118_17, s118_20, s118_21, s118_22, s118_23, s118_24, s118_27, s118_28, s118_29, s118_32, s118_33, s118_34, s118_35, s118_36, s118_37, s118_40, s118_41, s118_42, s118_45, s118_47, s118_50, s118_51, s118_52, s118_53, s118_54, s118_56, s118_59, s118_61, s118_63, s118_66, s118_67, s118_68, s118_69, s118_72, s118_73, s118_76, s118_78, s118_79, s118_80, s118_82, s118_83, s118_84, s118_85, s118_86, s118_89, s118_90, s118_91, s118_94, s118_95, tw_gf, mt_27, show nI 6 = 6 from rfl, tw_z_0]
      rw [s116_50]
      simp [s116_0, s116_1, s116_2, s116_5, s116_6, s116_7, s116_10, s116_11, s116_12, s116_15, s116_16, s116_17, s116_18, s116_21, s116_23, s116_26, s116_27, s116_30, s116_31, s116_32, s116_33, s116_34, s116_37, s116_38, s116_41, s116_42, s116_45, s116_46, s116_47, s116_51, s116_54, s116_55, s116_58, s116_61, s116_62, s116_63, s116_64, s116_67, s116_69, s116_72, s116_73, s116_74, s116_75, s116_78, s116_79, s116_83, s116_86, s116_87, s116_90, s116_93, s116_94, s116_97, s116_98, s116_101, s116_102, s116_103, s116_104, s116_107, s116_108, s116_111, s116_112, tw_gf, mt_27, e0, mt_co, ec, q, er]
      simp [s116_50, s116_0, s116_1, s116_2, s116_5, s116_6, s116_7, s116_10, s116_11, s116_12, s116_15, s116_16, s116_17, s116_18, s116_21, s116_23, s116_26, s116_27, s116_30, s116_31, s116_32, s116_33, s116_34, s116_37, s116_38, s116_41, s116_42, s116_45, s116_46, s116_47, s116_51, s116_54, s116_55, s116_58, s116_61, s116_62, s116_63, s116_64, s116_67, s116_69, s116_72, s116_73, s116_74, s116_75, s116_78, s116_79, s116_83, s116_86, s116_87, s116_90, s116_93, s116_94, s116_97, s116_98, s116_101, s116_102, s116_103, s116_104, s116_107, s116_108, s116_111, s116_112]
    · refine ⟨1, Or.inl rfl, ?_⟩
      rw [s116_50]
      simp [s116_0, s116_1, s116_2, s116_5, s116_6, s116_7, s116_10, s116_11, s116_12, s116_15, s116_16, s116_17, s116_18, s116_21, s116_23, s116_26, s116_27, s116_30, s116_31, s116_32, s116_33, s116_34, s116_37, s116_38, s116_41, s116_42, s116_45, s116_46, s116_47, s116_51, s116_54, s116_55, s116_58, s116_61, s116_62, s116_63, s116_64, s116_67, s116_69, s116_72, s116_73, s116_74, s116_75, s116_78, s116_79, s116_83, s116_86, s116_87, s116_90, s116_93, s116_94, s116_97, s116_98, s116_101, s116_102, s116_103, s116_104, s116_107, s116_108, s116_111, s116_112, tw_gf, mt_27, e0, mt_co, ec, q]
  | succ d ih =>
    intro t p A ht hp
    have ec := m_codeAt (fl := fl) (tc := tc) (wc := wc) (hk := hk) (lw := lw) (st := st) (hg := hg) (rt := nI t) (rw := rw) (ns := ns) (nr := nr) (tr := tr) (A := A) (B := B) (C := C) hs hb hp
    have er := m_readsTide (fl := fl) (tc := tc) (wc := wc) (hk := hk) (lw := lw) (st := st) (hg := hg) (rw := rw) (ns := ns) (nr := nr) (tr := tr) (A := A) (B := B) (C := C) hs hb hp (show t < 6 by omega)
    have hle := unT_le (f := sf) (i := b) hp
    simp only [tdP]
    by_cases q : t = 0 ∨ cdK sf b n p = 44
    · rw [if_pos q]
      have head : tw_b 116 50 [.ref 27, .int (nI b), .int (nI n), .int 1] [] (mt h (mC fl tc wc hk lw st hg (nI p) (nI t) rw ns nr tr) A B C) = tw_b 116 72 [.ref 27, .int (nI b), .int (nI n), .int 1] [] (mt h (mC fl tc wc hk lw st hg (nI p) (nI t) rw ns nr tr) A B C) := by
        rw [s116_50]
        by_cases q0 : nI t = 0
        · simp [s116_51, s116_54, s116_55, s116_58, tw_gf, mt_27, q0]
        · have q44 : cdK sf b n p = 44 := by
            rcases q with z | z
            · rw [z] at q0; exact absurd nI_0 q0
            · exact z
          simp [s116_51, s116_54, s116_55, s116_58, s116_61, s116_62, s116_63, s116_64, s116_67, s116_69, tw_gf, mt_27, q0, mt_co, ec, q44]
      rw [head]
      cases e : unT (cdK sf b n) p with
      | mk a q2 =>
        rw [e] at er hle
        cases a with
        | none =>
          simp only at er ⊢
          refine ⟨nI t, A, ?_⟩
          simp [s116_0, s116_1, s116_2, s116_5, s116_6, s116_7, s116_10, s116_11, s116_12, s116_15, s116_16, s116_17, s116_18, s116_21, s116_23, s116_26, s116_27, s116_30, s116_31, s116_32, s116_33, s116_34, s116_37, s116_38, s116_41, s116_42, s116_45, s116_46, s116_47, s116_51, s116_54, s116_55, s116_58, s116_61, s116_62, s116_63, s116_64, s116_67, s116_69, s116_72, s116_73, s116_74, s116_75, s116_78, s116_79, s116_83, s116_86, s116_87, s116_90, s116_93, s116_94, s116_97, s116_98, s116_101, s116_102, s116_103, s116_104, s116_107, s116_108, s116_111, s116_112, mt_co, er]
          simp [s116_50, s116_0, s116_1, s116_2, s116_5, s116_6, s116_7, s116_10, s116_11, s116_12, s116_15, s116_16, s116_17, s116_18, s116_21, s116_23, s116_26, s116_27, s116_30, s116_31, s116_32, s116_33, s116_34, s116_37, s116_38, s116_41, s116_42, s116_45, s116_46, s116_47, s116_51, s116_54, s116_55, s116_58, s116_61, s116_62, s116_63, s116_64, s116_67, s116_69, s116_72, s116_73, s116_74, s116_75, s116_78, s116_79, s116_83, s116_86, s116_87, s116_90, s116_93, s116_94, s116_97, s116_98, s116_101, s116_102, s116_103, s116_104, s116_107, s116_108, s116_111, s116_112]
        | some v =>
          simp only at er ⊢
          have step : tw_b 116 72 [.ref 27, .int (nI b), .int (nI n), .int 1] [] (mt h (mC fl tc wc hk lw st hg (nI p) (nI t) rw ns nr tr) A B C) = tw_b 116 50 [.ref 27, .int (nI b), .int (nI n), .int 1] [] (mt h (mC fl tc wc hk lw st hg (nI q2) (nI (t + 1)) rw ns nr tr) (upd A t v) B C) := by
            simp [s116_0, s116_1, s116_2, s116_5, s116_6, s116_7, s116_10, s116_11, s116_12, s116_15, s116_16, s116_17, s116_18, s116_21, s116_23, s116_26, s116_27, s116_30, s116_31, s116_32, s116_33, s116_34, s116_37, s116_38, s116_41, s116_42, s116_45, s116_46, s116_47, s116_51, s116_54, s116_55, s116_58, s116_61, s116_62, s116_63, s116_64, s116_67, s116_69, s116_72, s116_73, s116_74, s116_75, s116_78, s116_79, s116_83, s116_86, s116_87, s116_90, s116_93, s116_94, s116_97, s116_98, s116_101, s116_102, s116_103, s116_104, s116_107, s116_108, s116_111, s116_112, mt_co, er]
          rw [step]
          exact ih (t + 1) q2 (upd A t v) (by omega) hle
    · rw [if_neg q]
      have q0 : ¬ nI t = 0 := nI_ne0 (by omega) (by omega)
      have q44 : ¬ cdK sf b n p = 44 := fun z => q (Or.inr z)
      refine ⟨1, Or.inl rfl, ?_⟩
      rw [s116_50]
      simp [s116_0, s116_1, s116_2, s116_5, s116_6, s116_7, s116_10, s116_11, s116_12, s116_15, s116_16, s116_17, s116_18, s116_21, s116_23, s116_26, s116_27, s116_30, s116_31, s116_32, s116_33, s116_34, s116_37, s116_38, s116_41, s116_42, s116_45, s116_46, s116_47, s116_51, s116_54, s116_55, s116_58, s116_61, s116_62, s116_63, s116_64, s116_67, s116_69, s116_72, s116_73, s116_74, s116_75, s116_78, s116_79, s116_83, s116_86, s116_87, s116_90, s116_93, s116_94, s116_97, s116_98, s116_101, s116_102, s116_103, s116_104, s116_107, s116_108, s116_111, s116_112, tw_gf, mt_27, q0, mt_co, ec, q44]
theorem m_works_loop (hs : h.2.2 42 = some (iC 240 sf)) (hb : b + n ≤ 240) : ∀ (d w p : Nat) (B C : Nat → Int32), w + d = 8 → p ≤ n → match wkP (cdK sf b n) n d w p B C with
    | .inl q => ∃ rw' B' C', tw_b 116 82 [.ref 27, .int (nI b), .int (nI n), .int 1] [] (mt h (mC fl tc wc hk lw st hg (nI p) rt (nI w) ns nr tr) A B C) = some (some (.int 0), mt h (mC fl tc wc hk lw st hg (nI q) rt rw' ns nr tr) A B' C')
    | .inr r => ∃ ra', tw_b 116 82 [.ref 27, .int (nI b), .int (nI n), .int 1] [] (mt h (mC fl tc wc hk lw st hg (nI p) rt (nI w) ns nr tr) A B C) = some (some (.int 1), mt h (mC fl tc wc hk lw st hg ra' rt (nI r.1) ns nr tr) A r.2.1 r.2.2) := by
  intro d
  induction d with
  | zero =>
    intro w p B C hw hp
    have e8 : w = 8 := by omega
    subst e8
    have e0 : ¬ nI 8 = 0 := by decide
    simp only [wkP]
    by_cases q : p < n
    · rw [if_pos q]
      have e1 : nI p < nI n := nI_lt q (by omega)
      have er : tw_b 120 0 [.ref 27, .int (nI b), .int (nI n), tw_un, tw_un] [] (mt h (mC fl tc wc hk lw st hg (nI p) rt (nI 8) ns nr tr) A B C) = some (some (.int 0), mt h (mC fl tc wc hk lw st hg (nI p) rt (nI 8) ns nr tr) A B C) := by
        simp [s120_0, s120_1, s120_4, s120_6, s120_9, s120_10, s120_11, s120_12, s120_15, s120_17, s120_20, s120_21, s120_22, s120_23, s120_24, s120_27, s120_28, s120_29, s120_32, s120_33, s120_34, s120_35, s120_38, s120_39, s120_40, s120_42, s120_45, s120_46, s120_48, s120_51, s120_52, s120_54, s120_57, s120_58, s120_59, s120_60, s120_61, s120_64, s120_65, s120_66, s120_69, s120_70, s120_71, s120_72, s120_73, s120_75, s120_78, s120_80, s120_82, s120_85, s120_86, s120_87, s120_88, s120_91, s120_92, s120_95, s120_96, s120_98, s120_101, s120_102, s120_105, s120_106, s120_108, s120_111, s120_112, s120_115, s120_116, s120_117, s120_118, s120_121, s120_122, s120_125, s120_127, s120_128, s120_129, s120_130, s120_133, s120_134, s120_135, s120_138, s120_139, tw_gf, mt_27, show nI 8 = 8 from rfl, tw_z_0]
      refine ⟨nI 8, B, C, ?_⟩
      rw [s116_82]
      simp [s116_0, s116_1, s116_2, s116_5, s116_6, s116_7, s116_10, s116_11, s116_12, s116_15, s116_16, s116_17, s116_18, s116_21, s116_23, s116_26, s116_27, s116_30, s116_31, s116_32, s116_33, s116_34, s116_37, s116_38, s116_41, s116_42, s116_45, s116_46, s116_47, s116_51, s116_54, s116_55, s116_58, s116_61, s116_62, s116_63, s116_64, s116_67, s116_69, s116_72, s116_73, s116_74, s116_75, s116_78, s116_79, s116_83, s116_86, s116_87, s116_90, s116_93, s116_94, s116_97, s116_98, s116_101, s116_102, s116_103, s116_104, s116_107, s116_108, s116_111, s116_112, tw_gf, mt_27, e0, e1, mt_co, er]
      simp [s116_82, s116_0, s116_1, s116_2, s116_5, s116_6, s116_7, s116_10, s116_11, s116_12, s116_15, s116_16, s116_17, s116_18, s116_21, s116_23, s116_26, s116_27, s116_30, s116_31, s116_32, s116_33, s116_34, s116_37, s116_38, s116_41, s116_42, s116_45, s116_46, s116_47, s116_51, s116_54, s116_55, s116_58, s116_61, s116_62, s116_63, s116_64, s116_67, s116_69, s116_72, s116_73, s116_74, s116_75, s116_78, s116_79, s116_83, s116_86, s116_87, s116_90, s116_93, s116_94, s116_97, s116_98, s116_101, s116_102, s116_103, s116_104, s116_107, s116_108, s116_111, s116_112, tw_z_0]
    · rw [if_neg q]
      have e1 : ¬ nI p < nI n := nI_nlt (by omega) (by omega)
      refine ⟨nI p, ?_⟩
      rw [s116_82]
      simp [s116_0, s116_1, s116_2, s116_5, s116_6, s116_7, s116_10, s116_11, s116_12, s116_15, s116_16, s116_17, s116_18, s116_21, s116_23, s116_26, s116_27, s116_30, s116_31, s116_32, s116_33, s116_34, s116_37, s116_38, s116_41, s116_42, s116_45, s116_46, s116_47, s116_51, s116_54, s116_55, s116_58, s116_61, s116_62, s116_63, s116_64, s116_67, s116_69, s116_72, s116_73, s116_74, s116_75, s116_78, s116_79, s116_83, s116_86, s116_87, s116_90, s116_93, s116_94, s116_97, s116_98, s116_101, s116_102, s116_103, s116_104, s116_107, s116_108, s116_111, s116_112, tw_gf, mt_27, e0, e1, tw_z_1]
  | succ d ih =>
    intro w p B C hw hp
    have er := m_readsWork (fl := fl) (tc := tc) (wc := wc) (hk := hk) (lw := lw) (st := st) (hg := hg) (rt := rt) (ns := ns) (nr := nr) (tr := tr) (A := A) (B := B) (C := C) hs hb hp (show w < 8 by omega)
    have hle := unW_le (f := sf) (i := b) hp
    simp only [wkP]
    by_cases q : w = 0 ∨ p < n
    · rw [if_pos q]
      have head : tw_b 116 82 [.ref 27, .int (nI b), .int (nI n), .int 1] [] (mt h (mC fl tc wc hk lw st hg (nI p) rt (nI w) ns nr tr) A B C) = tw_b 116 101 [.ref 27, .int (nI b), .int (nI n), .int 1] [] (mt h (mC fl tc wc hk lw st hg (nI p) rt (nI w) ns nr tr) A B C) := by
        rw [s116_82]
        by_cases q0 : nI w = 0
        · simp [s116_83, s116_86, s116_87, s116_90, tw_gf, mt_27, q0]
        · have q1 : nI p < nI n := by
            rcases q with z | z
            · rw [z] at q0; exact absurd nI_0 q0
            · exact nI_lt z (by omega)
          simp [s116_83, s116_86, s116_87, s116_90, s116_93, s116_94, s116_97, s116_98, tw_gf, mt_27, q0, q1]
      rw [head]
      cases e : unW (cdK sf b n) p with
      | mk a q2 =>
        rw [e] at er hle
        cases a with
        | none =>
          simp only at er ⊢
          refine ⟨nI w, B, C, ?_⟩
          simp [s116_0, s116_1, s116_2, s116_5, s116_6, s116_7, s116_10, s116_11, s116_12, s116_15, s116_16, s116_17, s116_18, s116_21, s116_23, s116_26, s116_27, s116_30, s116_31, s116_32, s116_33, s116_34, s116_37, s116_38, s116_41, s116_42, s116_45, s116_46, s116_47, s116_51, s116_54, s116_55, s116_58, s116_61, s116_62, s116_63, s116_64, s116_67, s116_69, s116_72, s116_73, s116_74, s116_75, s116_78, s116_79, s116_83, s116_86, s116_87, s116_90, s116_93, s116_94, s116_97, s116_98, s116_101, s116_102, s116_103, s116_104, s116_107, s116_108, s116_111, s116_112, mt_co, er]
          simp [s116_82, s116_0, s116_1, s116_2, s116_5, s116_6, s116_7, s116_10, s116_11, s116_12, s116_15, s116_16, s116_17, s116_18, s116_21, s116_23, s116_26, s116_27, s116_30, s116_31, s116_32, s116_33, s116_34, s116_37, s116_38, s116_41, s116_42, s116_45, s116_46, s116_47, s116_51, s116_54, s116_55, s116_58, s116_61, s116_62, s116_63, s116_64, s116_67, s116_69, s116_72, s116_73, s116_74, s116_75, s116_78, s116_79, s116_83, s116_86, s116_87, s116_90, s116_93, s116_94, s116_97, s116_98, s116_101, s116_102, s116_103, s116_104, s116_107, s116_108, s116_111, s116_112, tw_z_0]
        | some v =>
          simp only at er ⊢
          have step : tw_b 116 101 [.ref 27, .int (nI b), .int (nI n), .int 1] [] (mt h (mC fl tc wc hk lw st hg (nI p) rt (nI w) ns nr tr) A B C) = tw_b 116 82 [.ref 27, .int (nI b), .int (nI n), .int 1] [] (mt h (mC fl tc wc hk lw st hg (nI q2) rt (nI (w + 1)) ns nr tr) A (upd B w v.1) (upd C w v.2)) := by
            simp [s116_0, s116_1, s116_2, s116_5, s116_6, s116_7, s116_10, s116_11, s116_12, s116_15, s116_16, s116_17, s116_18, s116_21, s116_23, s116_26, s116_27, s116_30, s116_31, s116_32, s116_33, s116_34, s116_37, s116_38, s116_41, s116_42, s116_45, s116_46, s116_47, s116_51, s116_54, s116_55, s116_58, s116_61, s116_62, s116_63, s116_64, s116_67, s116_69, s116_72, s116_73, s116_74, s116_75, s116_78, s116_79, s116_83, s116_86, s116_87, s116_90, s116_93, s116_94, s116_97, s116_98, s116_101, s116_102, s116_103, s116_104, s116_107, s116_108, s116_111, s116_112, mt_co, er]
          rw [step]
          exact ih (w + 1) q2 (upd B w v.1) (upd C w v.2) (by omega) hle
    · rw [if_neg q]
      have q0 : ¬ nI w = 0 := nI_ne0 (by omega) (by omega)
      have q1 : ¬ nI p < nI n := nI_nlt (by omega) (by omega)
      refine ⟨nI p, ?_⟩
      rw [s116_82]
      simp [s116_0, s116_1, s116_2, s116_5, s116_6, s116_7, s116_10, s116_11, s116_12, s116_15, s116_16, s116_17, s116_18, s116_21, s116_23, s116_26, s116_27, s116_30, s116_31, s116_32, s116_33, s116_34, s116_37, s116_38, s116_41, s116_42, s116_45, s116_46, s116_47, s116_51, s116_54, s116_55, s116_58, s116_61, s116_62, s116_63, s116_64, s116_67, s116_69, s116_72, s116_73, s116_74, s116_75, s116_78, s116_79, s116_83, s116_86, s116_87, s116_90, s116_93, s116_94, s116_97, s116_98, s116_101, s116_102, s116_103, s116_104, s116_107, s116_108, s116_111, s116_112, tw_gf, mt_27, q0, q1, tw_z_1]
theorem m_readsTown (hM : h.2.2 27 = some (mC fl tc wc hk lw st hg ra rt rw ns nr tr)) (h31 : h.2.2 31 = some (iC 6 A)) (h32 : h.2.2 32 = some (iC 8 B)) (h33 : h.2.2 33 = some (iC 8 C)) (hs : h.2.2 42 = some (iC 240 sf)) (hb : b + n ≤ 240) : match twP (cdK sf b n) n A B C with
    | .inl q => ∃ rt' rw' A' B' C', tw_b 116 0 [.ref 27, .int (nI b), .int (nI n), tw_un] [] h = some (some (.int 0), mt h (mC fl tc wc hk lw st hg (nI q) rt' rw' ns nr tr) A' B' C')
    | .inr r => ∃ ra', tw_b 116 0 [.ref 27, .int (nI b), .int (nI n), tw_un] [] h = some (some (.int 1), mt h (mC fl tc wc hk lw st hg ra' (nI r.1) (nI r.2.1) ns nr tr) r.2.2.1 r.2.2.2.1 r.2.2.2.2) := by
  have ex : tw_set h 27 (mC fl tc wc hk lw st hg (nI 0) (nI 0) (nI 0) ns nr tr) = mt h (mC fl tc wc hk lw st hg (nI 0) (nI 0) (nI 0) ns nr tr) A B C := by
    unfold mt
    rw [tw_si h h31, tw_si h h32, tw_si h h33]
  have start : tw_b 116 0 [.ref 27, .int (nI b), .int (nI n), tw_un] [] h = tw_b 116 15 [.ref 27, .int (nI b), .int (nI n), tw_un] [] (mt h (mC fl tc wc hk lw st hg (nI 0) (nI 0) (nI 0) ns nr tr) A B C) := by
    rw [← ex]
    simp [s116_0, s116_1, s116_2, s116_5, s116_6, s116_7, s116_10, s116_11, s116_12, tw_sf, hM, tw_fit, tw_sg, tw_ss, nI_0]
  rw [start]
  have ec := m_codeAt (h := h) (fl := fl) (tc := tc) (wc := wc) (hk := hk) (lw := lw) (st := st) (hg := hg) (rt := nI 0) (rw := nI 0) (ns := ns) (nr := nr) (tr := tr) (A := A) (B := B) (C := C) hs hb (show 0 ≤ n by omega)
  unfold twP
  by_cases q1 : cdK sf b n 0 = 113
  · rw [if_pos q1]
    have hp1 := cdK_lt q1 (by decide)
    have go1 : tw_b 116 15 [.ref 27, .int (nI b), .int (nI n), tw_un] [] (mt h (mC fl tc wc hk lw st hg (nI 0) (nI 0) (nI 0) ns nr tr) A B C) = tw_b 116 50 [.ref 27, .int (nI b), .int (nI n), .int 1] [] (mt h (mC fl tc wc hk lw st hg (nI 1) (nI 0) (nI 0) ns nr tr) A B C) := by
      simp [s116_0, s116_1, s116_2, s116_5, s116_6, s116_7, s116_10, s116_11, s116_12, s116_15, s116_16, s116_17, s116_18, s116_21, s116_23, s116_26, s116_27, s116_30, s116_31, s116_32, s116_33, s116_34, s116_37, s116_38, s116_41, s116_42, s116_45, s116_46, s116_47, s116_51, s116_54, s116_55, s116_58, s116_61, s116_62, s116_63, s116_64, s116_67, s116_69, s116_72, s116_73, s116_74, s116_75, s116_78, s116_79, s116_83, s116_86, s116_87, s116_90, s116_93, s116_94, s116_97, s116_98, s116_101, s116_102, s116_103, s116_104, s116_107, s116_108, s116_111, s116_112, mt_co, ec, q1, tw_gf, tw_sf, mt_27, tw_fit, nI_1, mt_s27]
    rw [go1]
    have et := m_tides_loop (h := h) (fl := fl) (tc := tc) (wc := wc) (hk := hk) (lw := lw) (st := st) (hg := hg) (rw := nI 0) (ns := ns) (nr := nr) (tr := tr) (B := B) (C := C) hs hb 6 0 1 A (by omega) (by omega)
    have htd := tdP_le (f := sf) (i := b) (n := n) 6 0 1 A (by omega)
    cases e1 : tdP (cdK sf b n) 6 0 1 A with
    | inl q =>
      rw [e1] at et
      obtain ⟨rt', A', et⟩ := et
      refine ⟨rt', nI 0, A', B, C, ?_⟩
      rw [et]
      simp [s116_82, s116_0, s116_1, s116_2, s116_5, s116_6, s116_7, s116_10, s116_11, s116_12, s116_15, s116_16, s116_17, s116_18, s116_21, s116_23, s116_26, s116_27, s116_30, s116_31, s116_32, s116_33, s116_34, s116_37, s116_38, s116_41, s116_42, s116_45, s116_46, s116_47, s116_51, s116_54, s116_55, s116_58, s116_61, s116_62, s116_63, s116_64, s116_67, s116_69, s116_72, s116_73, s116_74, s116_75, s116_78, s116_79, s116_83, s116_86, s116_87, s116_90, s116_93, s116_94, s116_97, s116_98, s116_101, s116_102, s116_103, s116_104, s116_107, s116_108, s116_111, s116_112, tw_z_0]
    | inr r =>
      rw [e1] at et
      obtain ⟨_, r2, r3, r4⟩ := htd.2 r e1
      simp only at et ⊢
      obtain ⟨x, hx, et⟩ := et
      rw [et]
      rcases hx with rfl | ⟨rfl, hx⟩
      · have ew := m_works_loop (h := h) (fl := fl) (tc := tc) (wc := wc) (hk := hk) (lw := lw) (st := st) (hg := hg) (rt := nI r.1) (ns := ns) (nr := nr) (tr := tr) (A := r.2.2) hs hb 8 0 r.2.1 B C (by omega) r3
        cases e2 : wkP (cdK sf b n) n 8 0 r.2.1 B C with
        | inl q =>
          rw [e2] at ew
          obtain ⟨rw', B', C', ew⟩ := ew
          exact ⟨nI r.1, rw', r.2.2, B', C', ew⟩
        | inr s =>
          rw [e2] at ew
          exact ew
      · have e2 : wkP (cdK sf b n) n 8 0 r.2.1 B C = .inl r.2.1 := by
          simp [wkP, unW, hx]
        rw [e2]
        refine ⟨nI r.1, nI 0, r.2.2, B, C, ?_⟩
        simp [s116_82, s116_0, s116_1, s116_2, s116_5, s116_6, s116_7, s116_10, s116_11, s116_12, s116_15, s116_16, s116_17, s116_18, s116_21, s116_23, s116_26, s116_27, s116_30, s116_31, s116_32, s116_33, s116_34, s116_37, s116_38, s116_41, s116_42, s116_45, s116_46, s116_47, s116_51, s116_54, s116_55, s116_58, s116_61, s116_62, s116_63, s116_64, s116_67, s116_69, s116_72, s116_73, s116_74, s116_75, s116_78, s116_79, s116_83, s116_86, s116_87, s116_90, s116_93, s116_94, s116_97, s116_98, s116_101, s116_102, s116_103, s116_104, s116_107, s116_108, s116_111, s116_112, tw_z_0]
  · rw [if_neg q1]
    refine ⟨nI 0, nI 0, A, B, C, ?_⟩
    simp [s116_0, s116_1, s116_2, s116_5, s116_6, s116_7, s116_10, s116_11, s116_12, s116_15, s116_16, s116_17, s116_18, s116_21, s116_23, s116_26, s116_27, s116_30, s116_31, s116_32, s116_33, s116_34, s116_37, s116_38, s116_41, s116_42, s116_45, s116_46, s116_47, s116_51, s116_54, s116_55, s116_58, s116_61, s116_62, s116_63, s116_64, s116_67, s116_69, s116_72, s116_73, s116_74, s116_75, s116_78, s116_79, s116_83, s116_86, s116_87, s116_90, s116_93, s116_94, s116_97, s116_98, s116_101, s116_102, s116_103, s116_104, s116_107, s116_108, s116_111, s116_112, mt_co, ec, q1, tw_gf, tw_sf, mt_27, tw_fit, mt_s27]
    simp [s116_50, s116_82, s116_0, s116_1, s116_2, s116_5, s116_6, s116_7, s116_10, s116_11, s116_12, s116_15, s116_16, s116_17, s116_18, s116_21, s116_23, s116_26, s116_27, s116_30, s116_31, s116_32, s116_33, s116_34, s116_37, s116_38, s116_41, s116_42, s116_45, s116_46, s116_47, s116_51, s116_54, s116_55, s116_58, s116_61, s116_62, s116_63, s116_64, s116_67, s116_69, s116_72, s116_73, s116_74, s116_75, s116_78, s116_79, s116_83, s116_86, s116_87, s116_90, s116_93, s116_94, s116_97, s116_98, s116_101, s116_102, s116_103, s116_104, s116_107, s116_108, s116_111, s116_112, tw_z_0]
end T5
