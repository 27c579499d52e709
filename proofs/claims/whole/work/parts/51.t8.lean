/-! a new town: the model -/
section T8
variable {H : tw_H} {fl tc wc hk lw st hg ra rt rw ns nr tr : Int32} {t w : Nat} {tf kd wt A B C : Nat → Int32} {v1 v2 v3 v4 v5 : Int32}
theorem m_tcopy (hM : H.2.2 27 = some (mC fl (nI t) wc hk lw st hg ra rt rw ns nr tr)) (h31 : H.2.2 31 = some (iC 6 A)) (ht : t ≤ 6) : ∀ (d s : Nat), s + d = t → tw_b 109 98 [.ref 27, .int v1, .int v2, .int v3, .int v4, .int v5, .int (nI s)] [] (tw_set H 28 (iC 6 (fset tf A s))) = tw_b 109 127 [.ref 27, .int v1, .int v2, .int v3, .int v4, .int v5, .int (nI t)] [] (tw_set H 28 (iC 6 (fset tf A t))) := by
  intro d
  induction d with
  | zero =>
    intro s hd
    have hs : s = t := by omega
    subst hs
    rw [s109_98]
    simp [s109_0, s109_1, s109_4, s109_7, s109_8, s109_9, s109_12, s109_13, s109_14, s109_15, s109_16, s109_19, s109_22, s109_25, s109_26, s109_28, s109_31, s109_32, s109_33, s109_34, s109_35, s109_36, s109_38, s109_39, s109_42, s109_44, s109_46, s109_49, s109_51, s109_52, s109_53, s109_55, s109_56, s109_57, s109_58, s109_59, s109_61, s109_64, s109_67, s109_68, s109_70, s109_71, s109_74, s109_75, s109_78, s109_79, s109_80, s109_81, s109_84, s109_87, s109_88, s109_89, s109_92, s109_95, s109_96, s109_100, s109_101, s109_104, s109_107, s109_108, s109_111, s109_113, s109_114, s109_117, s109_119, s109_120, s109_121, s109_124, s109_128, s109_132, s109_133, s109_136, s109_139, s109_140, s109_143, s109_145, s109_146, s109_149, s109_151, s109_152, s109_153, s109_154, s109_157, s109_159, s109_160, s109_163, s109_165, s109_166, s109_167, s109_170, s109_173, s109_174, s109_175, s109_178, s109_181, s109_182, s109_183, s109_186, s109_187, s109_188, s109_191, s109_192, s109_193, s109_196, s109_197, s109_198, s109_201, s109_202, s109_203, s109_206, s109_209, tw_gf, tw_sg, hM, Int32.lt_irrefl]
  | succ d ih =>
    intro s hd
    have e1 : nI s < nI t := nI_lt (by omega) (by omega)
    have ev := tw_vi_n (show s < 6 by omega) (by decide)
    have ec := nI_clamp (show s < 2 ^ 31 by omega)
    have ef := fset_s tf A s
    rw [← ih (s + 1) (by omega), s109_98]
    simp [s109_0, s109_1, s109_4, s109_7, s109_8, s109_9, s109_12, s109_13, s109_14, s109_15, s109_16, s109_19, s109_22, s109_25, s109_26, s109_28, s109_31, s109_32, s109_33, s109_34, s109_35, s109_36, s109_38, s109_39, s109_42, s109_44, s109_46, s109_49, s109_51, s109_52, s109_53, s109_55, s109_56, s109_57, s109_58, s109_59, s109_61, s109_64, s109_67, s109_68, s109_70, s109_71, s109_74, s109_75, s109_78, s109_79, s109_80, s109_81, s109_84, s109_87, s109_88, s109_89, s109_92, s109_95, s109_96, s109_100, s109_101, s109_104, s109_107, s109_108, s109_111, s109_113, s109_114, s109_117, s109_119, s109_120, s109_121, s109_124, s109_128, s109_132, s109_133, s109_136, s109_139, s109_140, s109_143, s109_145, s109_146, s109_149, s109_151, s109_152, s109_153, s109_154, s109_157, s109_159, s109_160, s109_163, s109_165, s109_166, s109_167, s109_170, s109_173, s109_174, s109_175, s109_178, s109_181, s109_182, s109_183, s109_186, s109_187, s109_188, s109_191, s109_192, s109_193, s109_196, s109_197, s109_198, s109_201, s109_202, s109_203, s109_206, s109_209, tw_gf, tw_ia, tw_ix, tw_sg, hM, h31, e1, ev, ec, ef, tw_ss, nI_1]
theorem m_wcopy (hM : H.2.2 27 = some (mC fl tc (nI w) hk lw st hg ra rt rw ns nr tr)) (h32 : H.2.2 32 = some (iC 8 B)) (h33 : H.2.2 33 = some (iC 8 C)) (hw : w ≤ 8) : ∀ (d s : Nat), s + d = w → tw_b 109 130 [.ref 27, .int v1, .int v2, .int v3, .int v4, .int v5, .int (nI s)] [] (tw_set (tw_set H 29 (iC 8 (fset kd B s))) 30 (iC 8 (fset wt C s))) = tw_b 109 173 [.ref 27, .int v1, .int v2, .int v3, .int v4, .int v5, .int (nI w)] [] (tw_set (tw_set H 29 (iC 8 (fset kd B w))) 30 (iC 8 (fset wt C w))) := by
  intro d
  induction d with
  | zero =>
    intro s hd
    have hs : s = w := by omega
    subst hs
    rw [s109_130]
    simp [s109_0, s109_1, s109_4, s109_7, s109_8, s109_9, s109_12, s109_13, s109_14, s109_15, s109_16, s109_19, s109_22, s109_25, s109_26, s109_28, s109_31, s109_32, s109_33, s109_34, s109_35, s109_36, s109_38, s109_39, s109_42, s109_44, s109_46, s109_49, s109_51, s109_52, s109_53, s109_55, s109_56, s109_57, s109_58, s109_59, s109_61, s109_64, s109_67, s109_68, s109_70, s109_71, s109_74, s109_75, s109_78, s109_79, s109_80, s109_81, s109_84, s109_87, s109_88, s109_89, s109_92, s109_95, s109_96, s109_100, s109_101, s109_104, s109_107, s109_108, s109_111, s109_113, s109_114, s109_117, s109_119, s109_120, s109_121, s109_124, s109_128, s109_132, s109_133, s109_136, s109_139, s109_140, s109_143, s109_145, s109_146, s109_149, s109_151, s109_152, s109_153, s109_154, s109_157, s109_159, s109_160, s109_163, s109_165, s109_166, s109_167, s109_170, s109_174, s109_175, s109_178, s109_181, s109_182, s109_183, s109_186, s109_187, s109_188, s109_191, s109_192, s109_193, s109_196, s109_197, s109_198, s109_201, s109_202, s109_203, s109_206, s109_209, tw_gf, tw_sg, hM, Int32.lt_irrefl]
  | succ d ih =>
    intro s hd
    have e1 : nI s < nI w := nI_lt (by omega) (by omega)
    have ev := tw_vi_n (show s < 8 by omega) (by decide)
    have ec := nI_clamp (show s < 2 ^ 31 by omega)
    have ef := fset_s kd B s
    have ef2 := fset_s wt C s
    have sw : ∀ a b : Nat → Int32, tw_set (tw_set (tw_set (tw_set H 29 (iC 8 (fset kd B s))) 30 (iC 8 (fset wt C s))) 29 (iC 8 a)) 30 (iC 8 b) = tw_set (tw_set H 29 (iC 8 a)) 30 (iC 8 b) := fun a b => by
      rw [tw_sc _ _ _ (show (30 : Nat) ≠ 29 by decide), tw_ss, tw_ss]
    rw [← ih (s + 1) (by omega), s109_130]
    simp [s109_0, s109_1, s109_4, s109_7, s109_8, s109_9, s109_12, s109_13, s109_14, s109_15, s109_16, s109_19, s109_22, s109_25, s109_26, s109_28, s109_31, s109_32, s109_33, s109_34, s109_35, s109_36, s109_38, s109_39, s109_42, s109_44, s109_46, s109_49, s109_51, s109_52, s109_53, s109_55, s109_56, s109_57, s109_58, s109_59, s109_61, s109_64, s109_67, s109_68, s109_70, s109_71, s109_74, s109_75, s109_78, s109_79, s109_80, s109_81, s109_84, s109_87, s109_88, s109_89, s109_92, s109_95, s109_96, s109_100, s109_101, s109_104, s109_107, s109_108, s109_111, s109_113, s109_114, s109_117, s109_119, s109_120, s109_121, s109_124, s109_128, s109_132, s109_133, s109_136, s109_139, s109_140, s109_143, s109_145, s109_146, s109_149, s109_151, s109_152, s109_153, s109_154, s109_157, s109_159, s109_160, s109_163, s109_165, s109_166, s109_167, s109_170, s109_174, s109_175, s109_178, s109_181, s109_182, s109_183, s109_186, s109_187, s109_188, s109_191, s109_192, s109_193, s109_196, s109_197, s109_198, s109_201, s109_202, s109_203, s109_206, s109_209, tw_gf, tw_ia, tw_ix, tw_sg, hM, h32, h33, e1, ev, ec, ef, ef2, sw, nI_1]
theorem m_town_tail (hM : H.2.2 27 = some (mC fl tc wc hk lw st hg ra (nI t) (nI w) ns nr tr)) (h28 : H.2.2 28 = some (iC 6 tf)) (h29 : H.2.2 29 = some (iC 8 kd)) (h30 : H.2.2 30 = some (iC 8 wt)) (h31 : H.2.2 31 = some (iC 6 A)) (h32 : H.2.2 32 = some (iC 8 B)) (h33 : H.2.2 33 = some (iC 8 C)) (ht : t ≤ 6) (hw : w ≤ 8) : tw_b 109 79 [.ref 27, .int v1, .int v2, .int v3, .int v4, .int v5, tw_un] [] H = some (some (.int (nI w)), tw_set (tw_set (tw_set (tw_set H 28 (iC 6 (fset tf A t))) 29 (iC 8 (fset kd B w))) 30 (iC 8 (fset wt C w))) 27 (mC 0 (nI t) (nI w) (bitI (nI w) - 1) 0 0 hg ra (nI t) (nI w) 0 0 tr)) := by
  obtain ⟨H1, hH1⟩ : ∃ H1, H1 = tw_set H 27 (mC fl (nI t) (nI w) hk lw st hg ra (nI t) (nI w) ns nr tr) := ⟨_, rfl⟩
  have o1 : ∀ a, a ≠ 27 → H1.2.2 a = H.2.2 a := fun a ha => by rw [hH1, tw_sg, if_neg ha]
  have gM1 : H1.2.2 27 = some (mC fl (nI t) (nI w) hk lw st hg ra (nI t) (nI w) ns nr tr) := by rw [hH1, tw_sg, if_pos rfl]
  have c1 := m_tcopy (H := H1) (tf := tf) (v1 := v1) (v2 := v2) (v3 := v3) (v4 := v4) (v5 := v5) gM1 (by rw [o1 31 (by decide)]; exact h31) ht t 0 (by omega)
  rw [nI_0, fset_0, tw_si H1 (by rw [o1 28 (by decide)]; exact h28)] at c1
  obtain ⟨H2, hH2⟩ : ∃ H2, H2 = tw_set H1 28 (iC 6 (fset tf A t)) := ⟨_, rfl⟩
  rw [← hH2] at c1
  have o2 : ∀ a, a ≠ 28 → H2.2.2 a = H1.2.2 a := fun a ha => by rw [hH2, tw_sg, if_neg ha]
  have c2 := m_wcopy (H := H2) (kd := kd) (wt := wt) (v1 := v1) (v2 := v2) (v3 := v3) (v4 := v4) (v5 := v5) (by rw [o2 27 (by decide)]; exact gM1) (by rw [o2 32 (by decide), o1 32 (by decide)]; exact h32) (by rw [o2 33 (by decide), o1 33 (by decide)]; exact h33) hw w 0 (by omega)
  rw [nI_0, fset_0, fset_0, tw_si H2 (by rw [o2 29 (by decide), o1 29 (by decide)]; exact h29), tw_si H2 (by rw [o2 30 (by decide), o1 30 (by decide)]; exact h30)] at c2
  obtain ⟨H3, hH3⟩ : ∃ H3, H3 = tw_set (tw_set H2 29 (iC 8 (fset kd B w))) 30 (iC 8 (fset wt C w)) := ⟨_, rfl⟩
  rw [← hH3] at c2
  have gM3 : H3.2.2 27 = some (mC fl (nI t) (nI w) hk lw st hg ra (nI t) (nI w) ns nr tr) := by rw [hH3, tw_sg, if_neg (by decide), tw_sg, if_neg (by decide), o2 27 (by decide)]; exact gM1
  have s1 : tw_b 109 79 [.ref 27, .int v1, .int v2, .int v3, .int v4, .int v5, tw_un] [] H = tw_b 109 98 [.ref 27, .int v1, .int v2, .int v3, .int v4, .int v5, .int 0] [] H1 := by
    rw [hH1]
    simp [s109_79, s109_80, s109_81, s109_84, s109_87, s109_88, s109_89, s109_92, s109_95, s109_96, tw_gf, tw_sf, hM, tw_fit, tw_sg, tw_ss]
  have s2 : tw_b 109 127 [.ref 27, .int v1, .int v2, .int v3, .int v4, .int v5, .int (nI t)] [] H2 = tw_b 109 130 [.ref 27, .int v1, .int v2, .int v3, .int v4, .int v5, .int 0] [] H2 := by
    simp [s109_127, s109_128]
  have fin : tw_set H3 27 (mC 0 (nI t) (nI w) (bitI (nI w) - 1) 0 0 hg ra (nI t) (nI w) 0 0 tr) = tw_set (tw_set (tw_set (tw_set H 28 (iC 6 (fset tf A t))) 29 (iC 8 (fset kd B w))) 30 (iC 8 (fset wt C w))) 27 (mC 0 (nI t) (nI w) (bitI (nI w) - 1) 0 0 hg ra (nI t) (nI w) 0 0 tr) := by
    rw [hH3, hH2, hH1, tw_sc _ _ _ (show (30 : Nat) ≠ 27 by decide), tw_sc _ _ _ (show (29 : Nat) ≠ 27 by decide), tw_sc _ _ _ (show (28 : Nat) ≠ 27 by decide), tw_ss, tw_sc _ _ _ (show (27 : Nat) ≠ 28 by decide), tw_sc _ _ _ (show (27 : Nat) ≠ 29 by decide), tw_sc _ _ _ (show (27 : Nat) ≠ 30 by decide)]
  rw [s1, c1, s2, c2, ← fin]
  obtain ⟨H4, hH4⟩ : ∃ H4, H4 = tw_set H3 27 (mC fl (nI t) (nI w) (bitI (nI w) - 1) 0 0 hg ra (nI t) (nI w) 0 0 tr) := ⟨_, rfl⟩
  have gM4 : H4.2.2 27 = some (mC fl (nI t) (nI w) (bitI (nI w) - 1) 0 0 hg ra (nI t) (nI w) 0 0 tr) := by rw [hH4, tw_sg, if_pos rfl]
  have er := m_refused gM4 (nI w)
  have s3 : tw_b 109 173 [.ref 27, .int v1, .int v2, .int v3, .int v4, .int v5, .int (nI w)] [] H3 = tw_b 109 201 [.ref 27, .int v1, .int v2, .int v3, .int v4, .int v5, .int (nI w)] [] H4 := by
    rw [hH4]
    simp [s109_173, s109_174, s109_175, s109_178, s109_181, s109_182, s109_183, s109_186, s109_187, s109_188, s109_191, s109_192, s109_193, s109_196, s109_197, s109_198, mco gM3, m_every gM3, tw_gf, tw_sf, gM3, tw_fit, tw_sg, tw_ss]
  rw [s3]
  rw [hH4, tw_ss, ← hH4] at er
  simp [s109_201, s109_202, s109_203, s109_206, s109_209, tw_gf, gM4, mco gM4, er]
end T8
