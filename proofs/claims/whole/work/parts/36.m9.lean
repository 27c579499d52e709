/-! fewest: the model, and the class's -/
theorem sub_bits (x y : Int32) : (x &&& (y ^^^ -1) = 0) = (∀ j, j < 32 → hasB x (nI j) = true → hasB y (nI j) = true) := by
  refine propext ⟨fun z j hj h => ?_, fun z => ?_⟩
  · have h1 := hasB_and x (y ^^^ -1) hj
    rw [z, hasB_not _ hj, h] at h1
    have h0 : hasB 0 (nI j) = false := by
      have : ∀ j : Fin 32, hasB 0 (nI j.1) = false := by decide +kernel
      exact this ⟨j, hj⟩
    rw [h0] at h1
    simpa using h1.symm
  · rw [← Int32.toBitVec_inj]
    apply BitVec.eq_of_getLsbD_eq
    intro j hj
    rw [← hasB_bit _ hj, hasB_and _ _ hj, hasB_not _ hj]
    rw [show (0 : Int32).toBitVec.getLsbD j = false by rw [show (0 : Int32).toBitVec = 0#32 from rfl]; simp]
    cases h : hasB x (nI j) with
    | false => rfl
    | true => rw [z j hj h]; rfl
theorem nI_bit {s j : Nat} (hj : j < 32) : hasB (nI s) (nI j) = s.testBit j := by
  rw [hasB_bit _ hj]
  show (BitVec.ofNat 32 s).getLsbD j = _
  rw [BitVec.getLsbD_ofNat]
  simp [hj]
theorem sub_le {s m : Nat} (hs : s < 256) (h : ∀ j, j < 32 → hasB (nI s) (nI j) = true → hasB (nI m) (nI j) = true) : s ≤ m := by
  have e : s &&& m = s := by
    apply Nat.eq_of_testBit_eq
    intro j
    rw [Nat.testBit_and]
    by_cases hj : j < 32
    · have := h j hj
      rw [nI_bit hj, nI_bit hj] at this
      cases q : s.testBit j with
      | false => rfl
      | true => rw [this q]; rfl
    · have : s.testBit j = false := Nat.testBit_lt_two_pow (Nat.lt_of_lt_of_le hs (Nat.le_trans (show 256 ≤ 2 ^ 32 by decide) (Nat.pow_le_pow_right (by decide) (by omega))))
      rw [this]; rfl
  rw [← e]
  exact Nat.and_le_right
theorem nt1 (x : Int32) : x ^^^ -1 = ~~~x := by simp
def fwM (was k : Int32) (p : Nat → Bool) : Nat → Nat → Option Nat → Option Nat
  | _, 0, b => b
  | s, d + 1, b => fwM was k p (s + 1) d (if ((nI s &&& ~~~was = 0 ∧ hasB (nI s) k = false) ∧ (∀ q, b = some q → bcF (nI s) < bcF (nI q))) ∧ p s = true then some s else b)
theorem fwM_skip {was k : Int32} {p : Nat → Bool} {m : Nat} {kk : Nat} (hkk : kk < 32) (hk : k = nI kk) (ho : was &&& (bitI k ^^^ -1) = nI m) : ∀ (d s : Nat) (b : Option Nat), m < s → s + d ≤ 256 → fwM was k p s d b = b := by
  intro d
  induction d with
  | zero => intro s b _ _; rfl
  | succ d ih =>
    intro s b hm hd
    simp only [fwM]
    rw [if_neg]
    · exact ih (s + 1) b (by omega) (by omega)
    · rintro ⟨⟨⟨h1, h2⟩, _⟩, _⟩
      rw [← nt1, sub_bits] at h1
      have := sub_le (s := s) (m := m) (by omega) (fun j hj h => by
        rw [← ho, hk, hasB_minus _ hj hkk]
        have : ¬ j = kk := fun z => by rw [z, ← hk, h2] at h; cases h
        simp [this, h1 j hj h])
      omega
theorem fwS_fwM {ft fo : Nat → Int32} {hk weak k : Int32} {p : Nat → Bool} {m kk : Nat} (hkk : kk < 8) (hkn : k = nI kk) (ho : hk &&& (bitI k ^^^ -1) = nI m) (hm : m < 256) (hp : ∀ s, s < 256 → p s = hasB (goF ft fo (hk &&& ~~~nI s) weak) k) : ∀ (d s : Nat) (b : Option Nat) (x : Nat), s + d = m + 1 → m + 1 + x ≤ 256 → encO (-9) (fwM hk k p s (d + x) b) = fwS ft fo hk (nI m) weak k s d (encO (-9) b) (match b with | none => 8 | some q => bcF (nI q)) := by
  intro d
  induction d with
  | zero =>
    intro s b x hs hx
    rw [Nat.zero_add, fwM_skip (show kk < 32 by omega) hkn ho x s b (by omega) (by omega)]
    rfl
  | succ d ih =>
    intro s b x hs hx
    rw [show d + 1 + x = d + x + 1 by omega]
    simp only [fwM, fwS, nt1]
    have e1 : (nI s &&& ~~~nI m = 0) = (nI s &&& ~~~hk = 0 ∧ hasB (nI s) k = false) := by
      rw [← nt1, ← nt1, sub_bits, sub_bits]
      refine propext ⟨fun z => ⟨fun j hj h => ?_, ?_⟩, fun z j hj h => ?_⟩
      · have := z j hj h
        rw [← ho, hkn, hasB_minus _ hj (by omega)] at this
        simp only [Bool.and_eq_true] at this
        exact this.1
      · cases q : hasB (nI s) k with
        | false => rfl
        | true =>
          rw [hkn] at q
          have := z kk (by omega) q
          rw [← ho, hkn, hasB_minus _ (show kk < 32 by omega) (by omega)] at this
          simp at this
      · rw [← ho, hkn, hasB_minus _ hj (by omega)]
        have : ¬ j = kk := fun y => by rw [y, ← hkn, z.2] at h; cases h
        simp [this, z.1 j hj h]
    have e2 : ∀ (_ : hasB (nI s) k = false), ((∀ q, b = some q → bcF (nI s) < bcF (nI q))) ↔ bcF (nI s) < (match b with | none => 8 | some q => bcF (nI q)) := fun hz => by
      cases b with
      | none =>
        simp only [reduceCtorEq, false_implies, implies_true, true_iff]
        have : ∀ s : Fin 256, ∀ kk : Fin 8, hasB (nI s.1) (nI kk.1) = false → bcF (nI s.1) < 8 := by decide +kernel
        rw [hkn] at hz
        exact this ⟨s, by omega⟩ ⟨kk, hkk⟩ hz
      | some q => simp
    have hps := hp s (by omega)
    by_cases q : ((nI s &&& ~~~hk = 0 ∧ hasB (nI s) k = false) ∧ (∀ q, b = some q → bcF (nI s) < bcF (nI q))) ∧ p s = true
    · rw [if_pos q, if_pos ⟨⟨e1 ▸ q.1.1, (e2 q.1.1.2).mp q.1.2⟩, hps ▸ q.2⟩]
      exact ih (s + 1) (some s) x (by omega) hx
    · rw [if_neg q, if_neg]
      · exact ih (s + 1) b x (by omega) hx
      · rintro ⟨⟨z1, z2⟩, z3⟩
        rw [e1] at z1
        exact q ⟨⟨z1, (e2 z1.2).mpr z2⟩, hps ▸ z3⟩
theorem HB.and {nw : Nat} {set : Int32} (hb : HB nw set) (x : Int32) : HB nw (set &&& x) := fun j h1 h2 => by
  rw [hasB_and _ _ (by omega), hb j h1 h2]
  rfl
theorem MZ.m27 {h : tw_H} {fl tc hk lw st hg ra rt rw nr tr : Int32} {nw n : Nat} {tf kd wt f34 f35 : Nat → Int32} (H : MZ h fl tc nw hk lw st hg ra rt rw n nr tr tf kd wt f34 f35) (hk' : Int32) : MZ (tw_set h 27 (mC fl tc (nI nw) hk' lw st hg ra rt rw (nI n) nr tr)) fl tc nw hk' lw st hg ra rt rw n nr tr tf kd wt f34 f35 := by
  unfold MZ at H ⊢
  simp only [tw_sg]
  simpa using H.2
section M9
variable {h : tw_H} {fl tc hk lw st hg ra rt rw nr tr : Int32} {nw n : Nat} {tf kd wt f34 f35 f : Nat → Int32}
theorem m_fw_loop (H : MZ h fl tc nw hk lw st hg ra rt rw n nr tr tf kd wt f34 f35) (h8 : nw ≤ 8) (hn : n ≤ 7) (hb : HB nw hk) (hT : Tid tc st) {k : Int32} {a e : Nat} (ha : a ≤ e) (he : e < 60) (hh : hasB hk k = true) {N : Nat} (hN : bitI (nI nw) - 1 = nI N) (hN2 : N < 256) (p : Nat → Bool) (hp : ∀ s, s < 256 → tw_b 149 0 [.ref 27, .int k, .int (nI a), .int (nI e), tw_un, tw_un] [] (tw_set h 27 (mC fl tc (nI nw) (hk &&& ~~~nI s) lw st hg ra rt rw (nI n) nr tr)) = some (some (.int (tw_bi (p s))), tw_set h 27 (mC fl tc (nI nw) (hk &&& ~~~nI s) lw st hg ra rt rw (nI n) nr tr))) : ∀ (d s : Nat) (b : Option Nat) (hk' : Int32) (v : Value), s + d = N + 1 → (∀ q, b = some q → q < 256) → tw_b 147 45 [.ref 27, .int k, .int (nI a), .int (nI e), .int hk, .int (encO (-9) b), .int (nI s), v] [] (tw_set h 27 (mC fl tc (nI nw) hk' lw st hg ra rt rw (nI n) nr tr)) = some (some (.int (encO (-9) (fwM hk k p s d b))), h) := by
  intro d
  induction d with
  | zero =>
    intro s b hk' v hs _
    have e1 : nI N < nI s := nI_lt (by omega) (by omega)
    have gM := H.m27 hk'
    rw [s147_45]
    simp [s147_0, s147_1, s147_2, s147_5, s147_8, s147_9, s147_10, s147_11, s147_14, s147_17, s147_18, s147_21, s147_24, s147_25, s147_26, s147_29, s147_31, s147_32, s147_33, s147_36, s147_38, s147_40, s147_42, s147_43, s147_47, s147_48, s147_51, s147_54, s147_56, s147_57, s147_60, s147_63, s147_65, s147_67, s147_68, s147_69, s147_70, s147_73, s147_75, s147_76, s147_79, s147_82, s147_84, s147_87, s147_89, s147_92, s147_94, s147_97, s147_100, s147_101, s147_104, s147_105, s147_107, s147_109, s147_112, s147_113, s147_115, s147_117, s147_118, s147_119, s147_120, s147_123, s147_124, s147_125, s147_126, s147_127, s147_130, s147_133, s147_135, s147_138, s147_140, s147_142, s147_145, s147_148, s147_149, s147_151, s147_154, s147_156, tw_gf, tw_sf, tw_fit, gM.1, mco gM.1, m_every gM.1, hN, e1, fwM, tw_ss, tw_si h H.1]
  | succ d ih =>
    intro s b hk' v hs hb8
    have e1 : ¬ nI N < nI s := nI_nlt (by omega) (by omega)
    have gM := H.m27 hk'
    have gM2 := H.m27 (hk &&& ~~~nI s)
    have hd := hp s (by omega)
    have hbs := m_bits (tw_set h 27 (mC fl tc (nI nw) hk' lw st hg ra rt rw (nI n) nr tr)) (show s < 256 by omega)
    simp only [fwM]
    generalize p s = P at *
    rw [s147_45]
    by_cases q1 : nI s &&& ~~~hk = 0
    · by_cases q2 : hasB (nI s) k = true
      · rw [if_neg (fun z => by rw [z.1.1.2] at q2; cases q2), ← ih (s + 1) b hk' (.int 0) (by omega) hb8]
        simp [s147_0, s147_1, s147_2, s147_5, s147_8, s147_9, s147_10, s147_11, s147_14, s147_17, s147_18, s147_21, s147_24, s147_25, s147_26, s147_29, s147_31, s147_32, s147_33, s147_36, s147_38, s147_40, s147_42, s147_43, s147_47, s147_48, s147_51, s147_54, s147_56, s147_57, s147_60, s147_63, s147_65, s147_67, s147_68, s147_69, s147_70, s147_73, s147_75, s147_76, s147_79, s147_82, s147_84, s147_87, s147_89, s147_92, s147_94, s147_97, s147_100, s147_101, s147_104, s147_105, s147_107, s147_109, s147_112, s147_113, s147_115, s147_117, s147_118, s147_119, s147_120, s147_123, s147_124, s147_125, s147_126, s147_127, s147_130, s147_133, s147_135, s147_138, s147_140, s147_142, s147_145, s147_148, s147_149, s147_151, s147_154, s147_156, tw_gf, tw_sf, tw_fit, gM.1, mco gM.1, m_every gM.1, hN, e1, m_isIn, tw_bi_0, hh, q1, q2, nI_1]
      · have q2' : hasB (nI s) k = false := by simpa using q2
        cases b with
        | none =>
          by_cases q4 : P = true
          · rw [if_pos ⟨⟨⟨q1, q2'⟩, fun _ z => by cases z⟩, q4⟩, ← ih (s + 1) (some s) (hk &&& ~~~nI s) (.int 1) (by omega) (fun q hq => by cases hq; omega)]
            simp [s147_0, s147_1, s147_2, s147_5, s147_8, s147_9, s147_10, s147_11, s147_14, s147_17, s147_18, s147_21, s147_24, s147_25, s147_26, s147_29, s147_31, s147_32, s147_33, s147_36, s147_38, s147_40, s147_42, s147_43, s147_47, s147_48, s147_51, s147_54, s147_56, s147_57, s147_60, s147_63, s147_65, s147_67, s147_68, s147_69, s147_70, s147_73, s147_75, s147_76, s147_79, s147_82, s147_84, s147_87, s147_89, s147_92, s147_94, s147_97, s147_100, s147_101, s147_104, s147_105, s147_107, s147_109, s147_112, s147_113, s147_115, s147_117, s147_118, s147_119, s147_120, s147_123, s147_124, s147_125, s147_126, s147_127, s147_130, s147_133, s147_135, s147_138, s147_140, s147_142, s147_145, s147_148, s147_149, s147_151, s147_154, s147_156, tw_gf, tw_sf, tw_fit, gM.1, mco gM.1, mco gM2.1, m_every gM.1, hN, e1, m_isIn, tw_bi_0, hh, q1, q2, encO, hd, q4, nI_1, tw_ss]
          · rw [if_neg (fun z => q4 z.2), ← ih (s + 1) none (hk &&& ~~~nI s) (.int 1) (by omega) hb8]
            simp [s147_0, s147_1, s147_2, s147_5, s147_8, s147_9, s147_10, s147_11, s147_14, s147_17, s147_18, s147_21, s147_24, s147_25, s147_26, s147_29, s147_31, s147_32, s147_33, s147_36, s147_38, s147_40, s147_42, s147_43, s147_47, s147_48, s147_51, s147_54, s147_56, s147_57, s147_60, s147_63, s147_65, s147_67, s147_68, s147_69, s147_70, s147_73, s147_75, s147_76, s147_79, s147_82, s147_84, s147_87, s147_89, s147_92, s147_94, s147_97, s147_100, s147_101, s147_104, s147_105, s147_107, s147_109, s147_112, s147_113, s147_115, s147_117, s147_118, s147_119, s147_120, s147_123, s147_124, s147_125, s147_126, s147_127, s147_130, s147_133, s147_135, s147_138, s147_140, s147_142, s147_145, s147_148, s147_149, s147_151, s147_154, s147_156, tw_gf, tw_sf, tw_fit, gM.1, mco gM.1, mco gM2.1, m_every gM.1, hN, e1, m_isIn, tw_bi_0, hh, q1, q2, encO, hd, q4, nI_1, tw_ss]
        | some q =>
          have hq := hb8 q rfl
          have e3 : ¬ nI q < 0 := nI_pos (by omega)
          have hbq := m_bits (tw_set h 27 (mC fl tc (nI nw) hk' lw st hg ra rt rw (nI n) nr tr)) hq
          by_cases q3 : bcF (nI s) < bcF (nI q)
          · by_cases q4 : P = true
            · rw [if_pos ⟨⟨⟨q1, q2'⟩, fun _ z => by cases z; exact q3⟩, q4⟩, ← ih (s + 1) (some s) (hk &&& ~~~nI s) (.int 1) (by omega) (fun q hq => by cases hq; omega)]
              simp [s147_0, s147_1, s147_2, s147_5, s147_8, s147_9, s147_10, s147_11, s147_14, s147_17, s147_18, s147_21, s147_24, s147_25, s147_26, s147_29, s147_31, s147_32, s147_33, s147_36, s147_38, s147_40, s147_42, s147_43, s147_47, s147_48, s147_51, s147_54, s147_56, s147_57, s147_60, s147_63, s147_65, s147_67, s147_68, s147_69, s147_70, s147_73, s147_75, s147_76, s147_79, s147_82, s147_84, s147_87, s147_89, s147_92, s147_94, s147_97, s147_100, s147_101, s147_104, s147_105, s147_107, s147_109, s147_112, s147_113, s147_115, s147_117, s147_118, s147_119, s147_120, s147_123, s147_124, s147_125, s147_126, s147_127, s147_130, s147_133, s147_135, s147_138, s147_140, s147_142, s147_145, s147_148, s147_149, s147_151, s147_154, s147_156, tw_gf, tw_sf, tw_fit, gM.1, mco gM.1, mco gM2.1, m_every gM.1, hN, e1, m_isIn, tw_bi_0, hh, q1, q2, encO, e3, hbs, hbq, q3, hd, q4, nI_1, tw_ss]
            · rw [if_neg (fun z => q4 z.2), ← ih (s + 1) (some q) (hk &&& ~~~nI s) (.int 1) (by omega) hb8]
              simp [s147_0, s147_1, s147_2, s147_5, s147_8, s147_9, s147_10, s147_11, s147_14, s147_17, s147_18, s147_21, s147_24, s147_25, s147_26, s147_29, s147_31, s147_32, s147_33, s147_36, s147_38, s147_40, s147_42, s147_43, s147_47, s147_48, s147_51, s147_54, s147_56, s147_57, s147_60, s147_63, s147_65, s147_67, s147_68, s147_69, s147_70, s147_73, s147_75, s147_76, s147_79, s147_82, s147_84, s147_87, s147_89, s147_92, s147_94, s147_97, s147_100, s147_101, s147_104, s147_105, s147_107, s147_109, s147_112, s147_113, s147_115, s147_117, s147_118, s147_119, s147_120, s147_123, s147_124, s147_125, s147_126, s147_127, s147_130, s147_133, s147_135, s147_138, s147_140, s147_142, s147_145, s147_148, s147_149, s147_151, s147_154, s147_156, tw_gf, tw_sf, tw_fit, gM.1, mco gM.1, mco gM2.1, m_every gM.1, hN, e1, m_isIn, tw_bi_0, hh, q1, q2, encO, e3, hbs, hbq, q3, hd, q4, nI_1, tw_ss]
          · rw [if_neg (fun z => q3 (z.1.2 q rfl)), ← ih (s + 1) (some q) hk' (.int 0) (by omega) hb8]
            simp [s147_0, s147_1, s147_2, s147_5, s147_8, s147_9, s147_10, s147_11, s147_14, s147_17, s147_18, s147_21, s147_24, s147_25, s147_26, s147_29, s147_31, s147_32, s147_33, s147_36, s147_38, s147_40, s147_42, s147_43, s147_47, s147_48, s147_51, s147_54, s147_56, s147_57, s147_60, s147_63, s147_65, s147_67, s147_68, s147_69, s147_70, s147_73, s147_75, s147_76, s147_79, s147_82, s147_84, s147_87, s147_89, s147_92, s147_94, s147_97, s147_100, s147_101, s147_104, s147_105, s147_107, s147_109, s147_112, s147_113, s147_115, s147_117, s147_118, s147_119, s147_120, s147_123, s147_124, s147_125, s147_126, s147_127, s147_130, s147_133, s147_135, s147_138, s147_140, s147_142, s147_145, s147_148, s147_149, s147_151, s147_154, s147_156, tw_gf, tw_sf, tw_fit, gM.1, mco gM.1, m_every gM.1, hN, e1, m_isIn, tw_bi_0, hh, q1, q2, encO, e3, hbs, hbq, q3, nI_1, tw_ss]
    · rw [if_neg (fun z => q1 z.1.1.1), ← ih (s + 1) b hk' (.int 0) (by omega) hb8]
      simp [s147_0, s147_1, s147_2, s147_5, s147_8, s147_9, s147_10, s147_11, s147_14, s147_17, s147_18, s147_21, s147_24, s147_25, s147_26, s147_29, s147_31, s147_32, s147_33, s147_36, s147_38, s147_40, s147_42, s147_43, s147_47, s147_48, s147_51, s147_54, s147_56, s147_57, s147_60, s147_63, s147_65, s147_67, s147_68, s147_69, s147_70, s147_73, s147_75, s147_76, s147_79, s147_82, s147_84, s147_87, s147_89, s147_92, s147_94, s147_97, s147_100, s147_101, s147_104, s147_105, s147_107, s147_109, s147_112, s147_113, s147_115, s147_117, s147_118, s147_119, s147_120, s147_123, s147_124, s147_125, s147_126, s147_127, s147_130, s147_133, s147_135, s147_138, s147_140, s147_142, s147_145, s147_148, s147_149, s147_151, s147_154, s147_156, tw_gf, tw_sf, tw_fit, gM.1, mco gM.1, m_every gM.1, hN, e1, m_isIn, tw_bi_0, hh, q1, nI_1]
theorem m_fewest (H : MZ h fl tc nw hk lw st hg ra rt rw n nr tr tf kd wt f34 f35) (h8 : nw ≤ 8) (hn : n ≤ 7) (hb : HB nw hk) (hT : Tid tc st) {kk : Nat} {a e : Nat} (hkk : kk < nw) (ha : a ≤ e) (he : e < 60) (hh : hasB hk (nI kk) = true) {ft fo : Nat → Int32} (hf1 : ∀ j, j < 8 → aT (TT nw kd wt) hg j = ft j) (hf2 : ∀ j, j < 8 → odZ (aT (TT nw kd wt) hg) lw j = fo j) {m : Nat} (hm : m < 2 ^ nw) (ho : hk &&& (bitI (nI kk) ^^^ -1) = nI m) : tw_b 147 0 [.ref 27, .int (nI kk), .int (nI a), .int (nI e), tw_un, tw_un, tw_un, tw_un] [] h = some (some (.int (fwS ft fo hk (nI m) (wkF (strM tc tf n f34 f35 st) a e) (nI kk) 0 (m + 1) (-9) 8)), h) := by
  have a1 : ¬ nI a < 0 := nI_pos (by omega)
  have a2 : nI a < 60 := nI_lt (b := 60) (by omega) (by omega)
  have b1 : ¬ nI e < 0 := nI_pos (by omega)
  have b2 : nI e < 60 := nI_lt (b := 60) (by omega) (by omega)
  have c1 : ¬ nI e < nI a := nI_nlt ha (by omega)
  have d1 : ¬ nI kk < 0 := nI_pos (by omega)
  have d2 : nI kk < nI nw := nI_lt (by omega) (by omega)
  have hN : bitI (nI nw) - 1 = nI (2 ^ nw - 1) := by
    have : ∀ w : Fin 9, bitI (nI w.1) - 1 = nI (2 ^ w.1 - 1) := by decide +kernel
    exact this ⟨nw, by omega⟩
  have h256 : 2 ^ nw ≤ 256 := Nat.pow_le_pow_right (by decide) h8
  have hp : 0 < 2 ^ nw := Nat.two_pow_pos nw
  have hl := m_fw_loop H h8 hn hb hT (k := nI kk) ha he hh hN (by omega) (fun s => dgS (fun hour => hasB (goM nw kd wt hg lw (hk &&& ~~~nI s) (strM tc tf n f34 f35 st (nI hour))) (nI kk)) a (e + 1 - a)) (fun s _ => m_doesGo (H.m27 (hk &&& ~~~nI s)) h8 hn (hb.and _) hT (nI kk) ha he) (2 ^ nw) 0 none hk tw_un (by omega) (fun q hq => by cases hq)
  rw [nI_0, tw_si h H.1] at hl
  have hx := fwS_fwM (ft := ft) (fo := fo) (hk := hk) (weak := wkF (strM tc tf n f34 f35 st) a e) (k := nI kk) (p := fun s => dgS (fun hour => hasB (goM nw kd wt hg lw (hk &&& ~~~nI s) (strM tc tf n f34 f35 st (nI hour))) (nI kk)) a (e + 1 - a)) (m := m) (kk := kk) (by omega) rfl ho (by omega) (fun s hs => by
    have := dgS_wk (ft := ft) (fo := fo) (set := hk &&& ~~~nI s) (str := strM tc tf n f34 f35 st) ha (show kk < 32 by omega)
    simp only [goM, goF_congr hf1 hf2]
    exact this) (m + 1) 0 none (2 ^ nw - 1 - m) (by omega) (by omega)
  rw [show m + 1 + (2 ^ nw - 1 - m) = 2 ^ nw by omega] at hx
  rw [hx, show encO (-9) none = -9 from rfl] at hl
  simp [s147_0, s147_1, s147_2, s147_5, s147_8, s147_9, s147_10, s147_11, s147_14, s147_17, s147_18, s147_21, s147_24, s147_25, s147_26, s147_29, s147_31, s147_32, s147_33, s147_36, s147_38, s147_40, s147_42, s147_43, s147_47, s147_48, s147_51, s147_54, s147_56, s147_57, s147_60, s147_63, s147_65, s147_67, s147_68, s147_69, s147_70, s147_73, s147_75, s147_76, s147_79, s147_82, s147_84, s147_87, s147_89, s147_92, s147_94, s147_97, s147_100, s147_101, s147_104, s147_105, s147_107, s147_109, s147_112, s147_113, s147_115, s147_117, s147_118, s147_119, s147_120, s147_123, s147_124, s147_125, s147_126, s147_127, s147_130, s147_133, s147_135, s147_138, s147_140, s147_142, s147_145, s147_148, s147_149, s147_151, s147_154, s147_156, tw_gf, H.1, mco H.1, m_noWork H.1, m_isHour, tw_bi_0, a1, a2, b1, b2, c1, d1, d2, hl]
end M9
