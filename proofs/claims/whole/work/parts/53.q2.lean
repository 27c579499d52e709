/-! plan: the model -/
theorem inS_Wn {D : Nat → Int32} {nw : Nat} (h8 : nw ≤ 8) {hour : Int32} : ∀ (d r : Nat) (set : Int32), (∀ x, r ≤ x → x < r + d → ∃ k, k < nw ∧ D (2 * x + 1) = nI k) → Wn nw set → Wn nw (inS D hour r d set).2 := by
  intro d
  induction d with
  | zero => intro r set _ h; exact h
  | succ d ih =>
    intro r set hD h
    simp only [inS]
    by_cases q : D (2 * r) = hour
    · rw [if_pos q]
      obtain ⟨k, hk, e⟩ := hD r (by omega) (by omega)
      rw [e]
      exact ih (r + 1) _ (fun x h1 h2 => hD x (by omega) (by omega)) (h.xor h8 hk)
    · rw [if_neg q]; exact h
section Q2
variable {h : tw_H} {fl tc hk lw st hg ra rt rw nr tr : Int32} {nw ns b n : Nat} {tf kd wt f34 f35 sf f : Nat → Int32}
theorem m_plan_in (hs : h.2.2 42 = some (iC 240 sf)) (hb : b + 2 * n ≤ 240) (was hour : Int32) (v6 : Value) : ∀ (d r : Nat) (set : Int32), r + d = n → tw_b 153 22 [.ref 27, .int (nI b), .int (nI n), .int was, .int (nI r), .int hour, v6] [] (m2 h (mC fl tc (nI nw) set lw st hg ra rt rw (nI ns) nr tr) f) = tw_b 153 74 [.ref 27, .int (nI b), .int (nI n), .int was, .int (nI (inS (fun x => sf (b + x)) hour r d set).1), .int hour, v6] [] (m2 h (mC fl tc (nI nw) (inS (fun x => sf (b + x)) hour r d set).2 lw st hg ra rt rw (nI ns) nr tr) f) := by
  have eb : ∀ k, (1 : Int32) <<< (k &&& 31) = bitI k := fun k => rfl
  intro d
  induction d with
  | zero =>
    intro r set hr
    have e : ¬ nI r < nI n := nI_nlt (by omega) (by omega)
    rw [s153_22]
    simp [s153_0, s153_1, s153_4, s153_5, s153_6, s153_8, s153_9, s153_12, s153_13, s153_17, s153_19, s153_24, s153_25, s153_28, s153_29, s153_32, s153_33, s153_34, s153_36, s153_37, s153_38, s153_39, s153_41, s153_44, s153_45, s153_46, s153_49, s153_50, s153_51, s153_54, s153_55, s153_56, s153_58, s153_59, s153_60, s153_61, s153_62, s153_63, s153_64, s153_65, s153_68, s153_71, s153_75, s153_77, s153_80, s153_83, s153_86, s153_87, s153_88, s153_91, s153_92, s153_94, s153_95, s153_99, s153_100, s153_103, s153_106, s153_108, s153_109, s153_112, s153_114, s153_115, s153_116, s153_118, s153_121, s153_124, s153_126, e, inS]
  | succ d ih =>
    intro r set hr
    have e : nI r < nI n := nI_lt (by omega) (by omega)
    have gs : ∀ m f, (m2 h m f).2.2 42 = some (iC 240 sf) := fun m f => by
      unfold m2
      rw [tw_sg, if_neg (by decide), tw_sg, if_neg (by decide)]; exact hs
    have ev := tw_vi_n (show b + 2 * r < 240 by omega) (by decide)
    have ec := nI_clamp (show b + 2 * r < 2 ^ 31 by omega)
    have ev2 := tw_vi_n (show b + 2 * r + 1 < 240 by omega) (by decide)
    have ec2 := nI_clamp (show b + 2 * r + 1 < 2 ^ 31 by omega)
    simp only [inS]
    simp only [show b + (2 * r + 1) = b + 2 * r + 1 from by omega]
    rw [s153_22]
    by_cases q : sf (b + 2 * r) = hour
    · rw [if_pos q, ← ih (r + 1) _ (by omega)]
      simp [s153_0, s153_1, s153_4, s153_5, s153_6, s153_8, s153_9, s153_12, s153_13, s153_17, s153_19, s153_24, s153_25, s153_28, s153_29, s153_32, s153_33, s153_34, s153_36, s153_37, s153_38, s153_39, s153_41, s153_44, s153_45, s153_46, s153_49, s153_50, s153_51, s153_54, s153_55, s153_56, s153_58, s153_59, s153_60, s153_61, s153_62, s153_63, s153_64, s153_65, s153_68, s153_71, s153_75, s153_77, s153_80, s153_83, s153_86, s153_87, s153_88, s153_91, s153_92, s153_94, s153_95, s153_99, s153_100, s153_103, s153_106, s153_108, s153_109, s153_112, s153_114, s153_115, s153_116, s153_118, s153_121, s153_124, s153_126, e, tw_gf, tw_sf, tw_ia, tw_fit, m2_27, m2_s27, gs, nI_2, nI_add, nI_1, ev, ec, ev2, ec2, q, eb]
    · rw [if_neg q]
      simp [s153_0, s153_1, s153_4, s153_5, s153_6, s153_8, s153_9, s153_12, s153_13, s153_17, s153_19, s153_24, s153_25, s153_28, s153_29, s153_32, s153_33, s153_34, s153_36, s153_37, s153_38, s153_39, s153_41, s153_44, s153_45, s153_46, s153_49, s153_50, s153_51, s153_54, s153_55, s153_56, s153_58, s153_59, s153_60, s153_61, s153_62, s153_63, s153_64, s153_65, s153_68, s153_71, s153_75, s153_77, s153_80, s153_83, s153_86, s153_87, s153_88, s153_91, s153_92, s153_94, s153_95, s153_99, s153_100, s153_103, s153_106, s153_108, s153_109, s153_112, s153_114, s153_115, s153_116, s153_118, s153_121, s153_124, s153_126, e, tw_gf, tw_ia, m2_27, gs, nI_2, nI_add, ev, ec, q]
theorem m_plan_loop (H : MZ h fl tc nw hk lw st hg ra rt rw ns nr tr tf kd wt f34 f35) (h8 : nw ≤ 8) (hns : ns ≤ 7) (hT : Tid tc st) (hs : h.2.2 42 = some (iC 240 sf)) (hb : b + 2 * n ≤ 240) (hD : ∀ x, x < n → ∃ k, k < nw ∧ sf (b + (2 * x + 1)) = nI k) (was : Int32) (v6 : Value) : ∀ (d s r : Nat) (set : Int32) (f : Nat → Int32), s + d = 60 → r ≤ n → Wn nw set → (∀ j, nw ≤ j → j < 8 → f j = 0) → ∃ set' f' r', tw_b 153 15 [.ref 27, .int (nI b), .int (nI n), .int was, .int (nI r), .int (nI s), v6] [] (m2 h (mC fl tc (nI nw) set lw st hg ra rt rw (nI ns) nr tr) f) = tw_b 153 86 [.ref 27, .int (nI b), .int (nI n), .int was, .int (nI r'), .int (nI 60), v6] [] (m2 h (mC fl tc (nI nw) set' lw st hg ra rt rw (nI ns) nr tr) f') ∧ (∀ j, nw ≤ j → j < 8 → f' j = 0) ∧ smS f' 0 8 0 = pnS (fun x => sf (b + x)) n (fun set => stM nw kd wt hg lw set tc tf ns f34 f35 st) s d r set (smS f 0 8 0) := by
  intro d
  induction d with
  | zero =>
    intro s r set f hd _ _ hz
    have e1 : ¬ nI s < 60 := nI_nlt (b := 60) (by omega) (by omega)
    have hs60 : s = 60 := by omega
    refine ⟨set, f, r, ?_, hz, rfl⟩
    rw [s153_15, hs60]
    rw [hs60] at e1
    simp [s153_0, s153_1, s153_4, s153_5, s153_6, s153_8, s153_9, s153_12, s153_13, s153_17, s153_19, s153_24, s153_25, s153_28, s153_29, s153_32, s153_33, s153_34, s153_36, s153_37, s153_38, s153_39, s153_41, s153_44, s153_45, s153_46, s153_49, s153_50, s153_51, s153_54, s153_55, s153_56, s153_58, s153_59, s153_60, s153_61, s153_62, s153_63, s153_64, s153_65, s153_68, s153_71, s153_75, s153_77, s153_80, s153_83, s153_87, s153_88, s153_91, s153_92, s153_94, s153_95, s153_99, s153_100, s153_103, s153_106, s153_108, s153_109, s153_112, s153_114, s153_115, s153_116, s153_118, s153_121, s153_124, s153_126, e1]
  | succ d ih =>
    intro s r set f hd hr hset hz
    have e1 : nI s < 60 := nI_lt (b := 60) (by omega) (by omega)
    have hi := m_plan_in (h := h) (fl := fl) (tc := tc) (lw := lw) (st := st) (hg := hg) (ra := ra) (rt := rt) (rw := rw) (nr := nr) (tr := tr) (nw := nw) (ns := ns) (f := f) hs hb was (nI s) v6 (n - r) r set (by omega)
    have hle := inS_le (D := fun x => sf (b + x)) (hour := nI s) (n - r) r set
    have hw := inS_Wn (D := fun x => sf (b + x)) h8 (hour := nI s) (n - r) r set (fun x h1 h2 => hD x (by omega)) hset
    simp only [pnS]
    obtain ⟨q, hq⟩ : ∃ q, q = inS (fun x => sf (b + x)) (nI s) r (n - r) set := ⟨_, rfl⟩
    rw [← hq] at hi hle hw
    simp only [← hq]
    have gM := H.m2 q.2 lw st hg f
    have hh := m_goHour gM h8 hns hw.hb hT m2_36 (show s < 60 by omega)
    rw [m2_s36] at hh
    obtain ⟨m, hm, em⟩ := (hw.sml h8).and (goM nw kd wt hg lw q.2 (strM tc tf ns f34 f35 st (nI s)) ^^^ -1)
    have est : stM nw kd wt hg lw q.2 tc tf ns f34 f35 st (nI s) = nI m := em
    obtain ⟨set', f', r', ih1, ih2, ih3⟩ := ih (s + 1) q.1 q.2 (fset f (addG (stM nw kd wt hg lw q.2 tc tf ns f34 f35 st (nI s)) f) 8) (by omega) (by omega) hw (fun j h1 h2 => by
      rw [fset_lt h2]
      unfold addG
      rw [hz j h1 h2, stM_no hw.hb (nI s) j h1 h2]
      rfl)
    refine ⟨set', f', r', ?_, ih2, ?_⟩
    · rw [← ih1, s153_15]
      simp [s153_17, s153_19, e1, hi, s153_74, s153_75, s153_77, s153_80, s153_83, mco m2_27, hh, nI_1]
    · rw [ih3, est, smS_hour f hm]
theorem m_psum_loop (H : MZ h fl tc nw hk lw st hg ra rt rw ns nr tr tf kd wt f34 f35) (h8 : nw ≤ 8) (hL : h.2.2 36 = some (iC 8 f)) (v1 v2 v3 v4 : Int32) : ∀ (d s : Nat) (acc : Int32), s + d = nw → tw_b 153 97 [.ref 27, .int v1, .int v2, .int v3, .int v4, .int acc, .int (nI s)] [] h = some (some (.int (smS f s d acc)), h) := by
  intro d
  induction d with
  | zero =>
    intro s acc hd
    have e : ¬ nI s < nI nw := nI_nlt (by omega) (by omega)
    rw [s153_97]
    simp [s153_0, s153_1, s153_4, s153_5, s153_6, s153_8, s153_9, s153_12, s153_13, s153_17, s153_19, s153_24, s153_25, s153_28, s153_29, s153_32, s153_33, s153_34, s153_36, s153_37, s153_38, s153_39, s153_41, s153_44, s153_45, s153_46, s153_49, s153_50, s153_51, s153_54, s153_55, s153_56, s153_58, s153_59, s153_60, s153_61, s153_62, s153_63, s153_64, s153_65, s153_68, s153_71, s153_74, s153_75, s153_77, s153_80, s153_83, s153_86, s153_87, s153_88, s153_91, s153_92, s153_94, s153_95, s153_99, s153_100, s153_103, s153_106, s153_108, s153_109, s153_112, s153_114, s153_115, s153_116, s153_118, s153_121, s153_124, s153_126, tw_gf, H.1, e, smS]
  | succ d ih =>
    intro s acc hd
    have e : nI s < nI nw := nI_lt (by omega) (by omega)
    have ev := tw_vi_n (show s < 8 by omega) (by decide)
    have ec := nI_clamp (show s < 2 ^ 31 by omega)
    simp only [smS]
    rw [s153_97, ← ih (s + 1) _ (by omega)]
    simp [s153_0, s153_1, s153_4, s153_5, s153_6, s153_8, s153_9, s153_12, s153_13, s153_17, s153_19, s153_24, s153_25, s153_28, s153_29, s153_32, s153_33, s153_34, s153_36, s153_37, s153_38, s153_39, s153_41, s153_44, s153_45, s153_46, s153_49, s153_50, s153_51, s153_54, s153_55, s153_56, s153_58, s153_59, s153_60, s153_61, s153_62, s153_63, s153_64, s153_65, s153_68, s153_71, s153_74, s153_75, s153_77, s153_80, s153_83, s153_86, s153_87, s153_88, s153_91, s153_92, s153_94, s153_95, s153_99, s153_100, s153_103, s153_106, s153_108, s153_109, s153_112, s153_114, s153_115, s153_116, s153_118, s153_121, s153_124, s153_126, tw_gf, tw_ia, H.1, hL, e, ev, ec, nI_1]
theorem m_lateBy (H : MZ h fl tc nw hk lw st hg ra rt rw ns nr tr tf kd wt f34 f35) (h8 : nw ≤ 8) (hns : ns ≤ 7) (hT : Tid tc st) (hs : h.2.2 42 = some (iC 240 sf)) (hb : b + 2 * n ≤ 240) (hD : ∀ x, x < n → ∃ k, k < nw ∧ sf (b + (2 * x + 1)) = nI k) (hset : Wn nw hk) (hL : h.2.2 36 = some (iC 8 f)) : ∃ f', tw_b 153 0 [.ref 27, .int (nI b), .int (nI n), tw_un, tw_un, tw_un, tw_un] [] h = some (some (.int (pnS (fun x => sf (b + x)) n (fun set => stM nw kd wt hg lw set tc tf ns f34 f35 st) 0 60 0 hk 0)), tw_set h 36 (iC 8 f')) := by
  obtain ⟨set', f', r', hl, hz, hsum⟩ := m_plan_loop H h8 hns hT hs hb hD hk tw_un 60 0 0 hk (fset f (fun _ => 0) 8) (by omega) (by omega) hset (fun j _ h2 => fset_lt h2)
  rw [smS_zero (f := fset f (fun _ => 0) 8) 8 0 0 (fun j _ h2 => fset_lt (by omega))] at hsum
  rw [nI_0, m2_j H.1] at hl
  have gM := H.m2 hk lw st hg f'
  have hfin : smS f' 0 nw 0 = smS f' 0 8 0 := by
    rw [show (8 : Nat) = nw + (8 - nw) by omega, smS_app nw 0 (8 - nw) 0]
    exact (smS_zero (8 - nw) (0 + nw) _ (fun j j1 j2 => hz j (by omega) (by omega))).symm
  have hp := m_psum_loop gM h8 m2_36 (nI b) (nI n) hk (nI r') nw 0 0 (by omega)
  rw [nI_0, hfin, hsum] at hp
  refine ⟨f', ?_⟩
  rw [← m2_j (f := f') H.1, ← hp]
  simp [s153_0, s153_1, s153_4, s153_5, s153_6, s153_8, s153_9, s153_12, s153_13, s153_86, s153_87, s153_88, s153_91, s153_92, s153_94, s153_95, tw_gf, tw_sf, tw_fit, H.1, mco H.1, m_begin H hL, hl, m2_27, m2_s27]
/-- the tests of a plan -/
theorem m_ref_loop (hM : h.2.2 27 = some (mC fl tc (nI nw) hk lw st hg ra rt rw (nI ns) nr tr)) (hs : h.2.2 42 = some (iC 240 sf)) (hb : b + 2 * n ≤ 240) (v1 v2 v3 v5 : Int32) : ∀ (d s : Nat), s + d = n → tw_b 152 94 [.ref 27, .int v1, .int v2, .int v3, .int (nI n), .int v5, .int (nI b), .int (nI s)] [] h = (if rfS (fun x => sf (b + x)) nw s d = 0 then tw_b 152 159 [.ref 27, .int v1, .int v2, .int v3, .int (nI n), .int v5, .int (nI b), .int (nI n)] [] h else some (some (.int (rfS (fun x => sf (b + x)) nw s d)), tw_set h 27 (mC 0 tc (nI nw) hk lw st hg ra rt rw (nI ns) nr tr))) := by
  intro d
  induction d with
  | zero =>
    intro s hd
    have hsn : s = n := by omega
    subst hsn
    rw [s152_94]
    simp [s152_0, s152_1, s152_4, s152_7, s152_8, s152_9, s152_12, s152_13, s152_14, s152_15, s152_16, s152_19, s152_22, s152_25, s152_27, s152_28, s152_29, s152_32, s152_35, s152_38, s152_39, s152_41, s152_44, s152_45, s152_46, s152_49, s152_52, s152_53, s152_55, s152_58, s152_59, s152_60, s152_61, s152_62, s152_63, s152_66, s152_68, s152_69, s152_70, s152_73, s152_75, s152_77, s152_80, s152_82, s152_83, s152_85, s152_86, s152_87, s152_88, s152_89, s152_91, s152_92, s152_96, s152_98, s152_101, s152_102, s152_105, s152_107, s152_108, s152_110, s152_111, s152_112, s152_113, s152_116, s152_119, s152_120, s152_122, s152_125, s152_126, s152_127, s152_128, s152_131, s152_133, s152_134, s152_136, s152_137, s152_138, s152_139, s152_140, s152_141, s152_144, s152_147, s152_148, s152_149, s152_152, s152_153, s152_156, s152_160, s152_164, s152_166, s152_169, s152_170, s152_173, s152_175, s152_176, s152_178, s152_179, s152_180, s152_181, s152_182, s152_185, s152_187, s152_188, s152_190, s152_191, s152_192, s152_193, s152_194, s152_195, s152_198, s152_199, s152_201, s152_203, s152_204, s152_207, s152_208, s152_211, s152_214, s152_215, s152_216, s152_218, s152_220, s152_223, s152_226, rfS, Int32.lt_irrefl]
  | succ d ih =>
    intro s hd
    have e : nI s < nI n := nI_lt (by omega) (by omega)
    have ev := tw_vi_n (show b + 2 * s < 240 by omega) (by decide)
    have ec := nI_clamp (show b + 2 * s < 2 ^ 31 by omega)
    have ev2 := tw_vi_n (show b + 2 * s + 1 < 240 by omega) (by decide)
    have ec2 := nI_clamp (show b + 2 * s + 1 < 2 ^ 31 by omega)
    have eh := m_isHour (sf (b + 2 * s)) h
    have ew := m_noWork hM (sf (b + 2 * s + 1))
    simp only [rfS]
    simp only [show b + (2 * s + 1) = b + 2 * s + 1 from by omega]
    by_cases q1 : ¬ sf (b + 2 * s) < 0 ∧ sf (b + 2 * s) < 60
    · rw [decide_eq_true q1] at eh
      by_cases q2 : ¬ sf (b + 2 * s + 1) < 0 ∧ sf (b + 2 * s + 1) < nI nw
      · rw [decide_eq_true q2] at ew
        simp only [if_pos q1, if_pos q2]
        rw [← ih (s + 1) (by omega), s152_94]
        simp [s152_0, s152_1, s152_4, s152_7, s152_8, s152_9, s152_12, s152_13, s152_14, s152_15, s152_16, s152_19, s152_22, s152_25, s152_27, s152_28, s152_29, s152_32, s152_35, s152_38, s152_39, s152_41, s152_44, s152_45, s152_46, s152_49, s152_52, s152_53, s152_55, s152_58, s152_59, s152_60, s152_61, s152_62, s152_63, s152_66, s152_68, s152_69, s152_70, s152_73, s152_75, s152_77, s152_80, s152_82, s152_83, s152_85, s152_86, s152_87, s152_88, s152_89, s152_91, s152_92, s152_96, s152_98, s152_101, s152_102, s152_105, s152_107, s152_108, s152_110, s152_111, s152_112, s152_113, s152_116, s152_119, s152_120, s152_122, s152_125, s152_126, s152_127, s152_128, s152_131, s152_133, s152_134, s152_136, s152_137, s152_138, s152_139, s152_140, s152_141, s152_144, s152_147, s152_148, s152_149, s152_152, s152_153, s152_156, s152_160, s152_164, s152_166, s152_169, s152_170, s152_173, s152_175, s152_176, s152_178, s152_179, s152_180, s152_181, s152_182, s152_185, s152_187, s152_188, s152_190, s152_191, s152_192, s152_193, s152_194, s152_195, s152_198, s152_199, s152_201, s152_203, s152_204, s152_207, s152_208, s152_211, s152_214, s152_215, s152_216, s152_218, s152_220, s152_223, s152_226, e, tw_gf, tw_ia, hM, mco hM, hs, nI_2, nI_add, nI_1, ev, ec, ev2, ec2, eh, ew, tw_bi_0]
      · rw [decide_eq_false q2] at ew
        simp only [if_pos q1, if_neg q2]
        rw [s152_94]
        simp [s152_0, s152_1, s152_4, s152_7, s152_8, s152_9, s152_12, s152_13, s152_14, s152_15, s152_16, s152_19, s152_22, s152_25, s152_27, s152_28, s152_29, s152_32, s152_35, s152_38, s152_39, s152_41, s152_44, s152_45, s152_46, s152_49, s152_52, s152_53, s152_55, s152_58, s152_59, s152_60, s152_61, s152_62, s152_63, s152_66, s152_68, s152_69, s152_70, s152_73, s152_75, s152_77, s152_80, s152_82, s152_83, s152_85, s152_86, s152_87, s152_88, s152_89, s152_91, s152_92, s152_96, s152_98, s152_101, s152_102, s152_105, s152_107, s152_108, s152_110, s152_111, s152_112, s152_113, s152_116, s152_119, s152_120, s152_122, s152_125, s152_126, s152_127, s152_128, s152_131, s152_133, s152_134, s152_136, s152_137, s152_138, s152_139, s152_140, s152_141, s152_144, s152_147, s152_148, s152_149, s152_152, s152_153, s152_156, s152_160, s152_164, s152_166, s152_169, s152_170, s152_173, s152_175, s152_176, s152_178, s152_179, s152_180, s152_181, s152_182, s152_185, s152_187, s152_188, s152_190, s152_191, s152_192, s152_193, s152_194, s152_195, s152_198, s152_199, s152_201, s152_203, s152_204, s152_207, s152_208, s152_211, s152_214, s152_215, s152_216, s152_218, s152_220, s152_223, s152_226, e, tw_gf, tw_ia, hM, mco hM, hs, nI_2, nI_add, nI_1, ev, ec, ev2, ec2, eh, ew, tw_bi_0, m_refused hM]
    · rw [decide_eq_false q1] at eh
      simp only [if_neg q1]
      rw [s152_94]
      simp [s152_0, s152_1, s152_4, s152_7, s152_8, s152_9, s152_12, s152_13, s152_14, s152_15, s152_16, s152_19, s152_22, s152_25, s152_27, s152_28, s152_29, s152_32, s152_35, s152_38, s152_39, s152_41, s152_44, s152_45, s152_46, s152_49, s152_52, s152_53, s152_55, s152_58, s152_59, s152_60, s152_61, s152_62, s152_63, s152_66, s152_68, s152_69, s152_70, s152_73, s152_75, s152_77, s152_80, s152_82, s152_83, s152_85, s152_86, s152_87, s152_88, s152_89, s152_91, s152_92, s152_96, s152_98, s152_101, s152_102, s152_105, s152_107, s152_108, s152_110, s152_111, s152_112, s152_113, s152_116, s152_119, s152_120, s152_122, s152_125, s152_126, s152_127, s152_128, s152_131, s152_133, s152_134, s152_136, s152_137, s152_138, s152_139, s152_140, s152_141, s152_144, s152_147, s152_148, s152_149, s152_152, s152_153, s152_156, s152_160, s152_164, s152_166, s152_169, s152_170, s152_173, s152_175, s152_176, s152_178, s152_179, s152_180, s152_181, s152_182, s152_185, s152_187, s152_188, s152_190, s152_191, s152_192, s152_193, s152_194, s152_195, s152_198, s152_199, s152_201, s152_203, s152_204, s152_207, s152_208, s152_211, s152_214, s152_215, s152_216, s152_218, s152_220, s152_223, s152_226, e, tw_gf, tw_ia, hM, mco hM, hs, nI_2, nI_add, nI_1, ev, ec, eh, tw_bi_0, m_refused hM]
theorem m_wrong_loop (hM : h.2.2 27 = some (mC fl tc (nI nw) hk lw st hg ra rt rw (nI ns) nr tr)) (hs : h.2.2 42 = some (iC 240 sf)) (hb : b + 2 * n ≤ 240) (hn : n ≤ 30) (v1 v2 v3 v5 : Int32) : ∀ (d s : Nat), s + d = n → 0 < s → tw_b 152 162 [.ref 27, .int v1, .int v2, .int v3, .int (nI n), .int v5, .int (nI b), .int (nI s)] [] h = (if wgS (fun x => sf (b + x)) s d = -9 then tw_b 152 214 [.ref 27, .int v1, .int v2, .int v3, .int (nI n), .int v5, .int (nI b), .int (nI n)] [] h else some (some (.int (-100 - wgS (fun x => sf (b + x)) s d)), tw_set h 27 (mC 0 tc (nI nw) hk lw st hg ra rt rw (nI ns) nr tr))) := by
  intro d
  induction d with
  | zero =>
    intro s hd _
    have hsn : s = n := by omega
    subst hsn
    rw [s152_162]
    simp [s152_0, s152_1, s152_4, s152_7, s152_8, s152_9, s152_12, s152_13, s152_14, s152_15, s152_16, s152_19, s152_22, s152_25, s152_27, s152_28, s152_29, s152_32, s152_35, s152_38, s152_39, s152_41, s152_44, s152_45, s152_46, s152_49, s152_52, s152_53, s152_55, s152_58, s152_59, s152_60, s152_61, s152_62, s152_63, s152_66, s152_68, s152_69, s152_70, s152_73, s152_75, s152_77, s152_80, s152_82, s152_83, s152_85, s152_86, s152_87, s152_88, s152_89, s152_91, s152_92, s152_96, s152_98, s152_101, s152_102, s152_105, s152_107, s152_108, s152_110, s152_111, s152_112, s152_113, s152_116, s152_119, s152_120, s152_122, s152_125, s152_126, s152_127, s152_128, s152_131, s152_133, s152_134, s152_136, s152_137, s152_138, s152_139, s152_140, s152_141, s152_144, s152_147, s152_148, s152_149, s152_152, s152_153, s152_156, s152_160, s152_164, s152_166, s152_169, s152_170, s152_173, s152_175, s152_176, s152_178, s152_179, s152_180, s152_181, s152_182, s152_185, s152_187, s152_188, s152_190, s152_191, s152_192, s152_193, s152_194, s152_195, s152_198, s152_199, s152_201, s152_203, s152_204, s152_207, s152_208, s152_211, s152_215, s152_216, s152_218, s152_220, s152_223, s152_226, wgS, Int32.lt_irrefl]
  | succ d ih =>
    intro s hd hs0
    have e : nI s < nI n := nI_lt (by omega) (by omega)
    have ev := tw_vi_n (show b + 2 * s < 240 by omega) (by decide)
    have ec := nI_clamp (show b + 2 * s < 2 ^ 31 by omega)
    have ev2 := tw_vi_n (show b + (2 * s - 2) < 240 by omega) (by decide)
    have ec2 := nI_clamp (show b + (2 * s - 2) < 2 ^ 31 by omega)
    have e3 : nI (b + 2 * s) - 2 = nI (b + (2 * s - 2)) := by
      rw [show b + 2 * s = b + (2 * s - 2) + 2 by omega, ← nI_add]
      exact Int32.add_sub_cancel _ _
    have s9 : ¬ nI s = -9 := nI_ne (by omega) (by decide)
    simp only [wgS]
    by_cases q : sf (b + 2 * s) < sf (b + (2 * s - 2))
    · simp only [if_pos q]
      rw [if_neg s9, s152_162]
      simp [s152_0, s152_1, s152_4, s152_7, s152_8, s152_9, s152_12, s152_13, s152_14, s152_15, s152_16, s152_19, s152_22, s152_25, s152_27, s152_28, s152_29, s152_32, s152_35, s152_38, s152_39, s152_41, s152_44, s152_45, s152_46, s152_49, s152_52, s152_53, s152_55, s152_58, s152_59, s152_60, s152_61, s152_62, s152_63, s152_66, s152_68, s152_69, s152_70, s152_73, s152_75, s152_77, s152_80, s152_82, s152_83, s152_85, s152_86, s152_87, s152_88, s152_89, s152_91, s152_92, s152_96, s152_98, s152_101, s152_102, s152_105, s152_107, s152_108, s152_110, s152_111, s152_112, s152_113, s152_116, s152_119, s152_120, s152_122, s152_125, s152_126, s152_127, s152_128, s152_131, s152_133, s152_134, s152_136, s152_137, s152_138, s152_139, s152_140, s152_141, s152_144, s152_147, s152_148, s152_149, s152_152, s152_153, s152_156, s152_160, s152_164, s152_166, s152_169, s152_170, s152_173, s152_175, s152_176, s152_178, s152_179, s152_180, s152_181, s152_182, s152_185, s152_187, s152_188, s152_190, s152_191, s152_192, s152_193, s152_194, s152_195, s152_198, s152_199, s152_201, s152_203, s152_204, s152_207, s152_208, s152_211, s152_215, s152_216, s152_218, s152_220, s152_223, s152_226, e, tw_gf, tw_ia, hM, mco hM, hs, nI_2, nI_add, e3, ev, ec, ev2, ec2, q, m_refused hM]
    · simp only [if_neg q]
      rw [← ih (s + 1) (by omega) (by omega), s152_162]
      simp [s152_0, s152_1, s152_4, s152_7, s152_8, s152_9, s152_12, s152_13, s152_14, s152_15, s152_16, s152_19, s152_22, s152_25, s152_27, s152_28, s152_29, s152_32, s152_35, s152_38, s152_39, s152_41, s152_44, s152_45, s152_46, s152_49, s152_52, s152_53, s152_55, s152_58, s152_59, s152_60, s152_61, s152_62, s152_63, s152_66, s152_68, s152_69, s152_70, s152_73, s152_75, s152_77, s152_80, s152_82, s152_83, s152_85, s152_86, s152_87, s152_88, s152_89, s152_91, s152_92, s152_96, s152_98, s152_101, s152_102, s152_105, s152_107, s152_108, s152_110, s152_111, s152_112, s152_113, s152_116, s152_119, s152_120, s152_122, s152_125, s152_126, s152_127, s152_128, s152_131, s152_133, s152_134, s152_136, s152_137, s152_138, s152_139, s152_140, s152_141, s152_144, s152_147, s152_148, s152_149, s152_152, s152_153, s152_156, s152_160, s152_164, s152_166, s152_169, s152_170, s152_173, s152_175, s152_176, s152_178, s152_179, s152_180, s152_181, s152_182, s152_185, s152_187, s152_188, s152_190, s152_191, s152_192, s152_193, s152_194, s152_195, s152_198, s152_199, s152_201, s152_203, s152_204, s152_207, s152_208, s152_211, s152_215, s152_216, s152_218, s152_220, s152_223, s152_226, e, tw_gf, tw_ia, hM, mco hM, hs, nI_2, nI_add, e3, ev, ec, ev2, ec2, q, nI_1]
end Q2
