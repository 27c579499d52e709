/-! late all together, help: the model -/
def smS (f : Nat → Int32) : Nat → Nat → Int32 → Int32
  | _, 0, acc => acc
  | s, d + 1, acc => smS f (s + 1) d (acc + f s)
theorem smS_acc (f : Nat → Int32) : ∀ (d s : Nat) (acc x : Int32), smS f s d (acc + x) = smS f s d acc + x := by
  intro d
  induction d with
  | zero => intro s acc x; rfl
  | succ d ih =>
    intro s acc x
    simp only [smS]
    rw [show acc + x + f s = acc + f s + x by ac_rfl]
    exact ih _ _ _
theorem smS_zero {f : Nat → Int32} : ∀ (d s : Nat) (acc : Int32), (∀ j, s ≤ j → j < s + d → f j = 0) → smS f s d acc = acc := by
  intro d
  induction d with
  | zero => intro s acc _; rfl
  | succ d ih =>
    intro s acc h
    simp only [smS]
    rw [h s (by omega) (by omega), Int32.add_zero]
    exact ih (s + 1) acc (fun j h1 h2 => h j (by omega) (by omega))
theorem smS_app {f : Nat → Int32} : ∀ (d s e : Nat) (acc : Int32), smS f s (d + e) acc = smS f (s + d) e (smS f s d acc) := by
  intro d
  induction d with
  | zero => intro s e acc; rw [Nat.zero_add]; rfl
  | succ d ih =>
    intro s e acc
    rw [show d + 1 + e = d + e + 1 by omega]
    simp only [smS]
    rw [ih, show s + 1 + d = s + (d + 1) by omega]
theorem smS_bits (f : Nat → Int32) (set : Int32) : ∀ (d s : Nat) (x y : Int32), smS (fun j => f j + if hasB set (nI j) = true then 1 else 0) s d (x + y) = smS f s d x + smS (fun j => if hasB set (nI j) = true then 1 else 0) s d y := by
  intro d
  induction d with
  | zero => intro s x y; rfl
  | succ d ih =>
    intro s x y
    simp only [smS]
    rw [← ih]
    congr 1
    ac_rfl
theorem smS_ext {f g : Nat → Int32} : ∀ (d s : Nat) (acc : Int32), (∀ j, s ≤ j → j < s + d → f j = g j) → smS f s d acc = smS g s d acc := by
  intro d
  induction d with
  | zero => intro s acc _; rfl
  | succ d ih =>
    intro s acc h
    simp only [smS]
    rw [h s (by omega) (by omega)]
    exact ih (s + 1) _ (fun j h1 h2 => h j (by omega) (by omega))
theorem smS_hour (f : Nat → Int32) {m : Nat} (hm : m < 256) : smS (fset f (addG (nI m) f) 8) 0 8 0 = smS f 0 8 0 + bcF (nI m) := by
  have e : smS (fun j => if hasB (nI m) (nI j) = true then 1 else 0) 0 8 0 = bcF (nI m) := by
    have : ∀ m : Fin 256, smS (fun j => if hasB (nI m.1) (nI j) = true then 1 else 0) 0 8 0 = bcF (nI m.1) := by decide +kernel
    exact this ⟨m, hm⟩
  have h := smS_bits f (nI m) 8 0 0 0
  rw [e] at h
  rw [← h]
  exact smS_ext 8 0 _ (fun j _ h2 => fset_lt h2)
/-- a small set -/
def Sml (set : Int32) : Prop := ∃ m, m < 256 ∧ set = nI m
theorem Sml.and {set : Int32} (h : Sml set) (x : Int32) : Sml (set &&& x) := by
  obtain ⟨m, hm, rfl⟩ := h
  refine ⟨m &&& x.toBitVec.toNat, Nat.lt_of_le_of_lt Nat.and_le_left hm, ?_⟩
  rw [← Int32.toBitVec_inj, Int32.toBitVec_and]
  apply BitVec.eq_of_toNat_eq
  show ((BitVec.ofNat 32 m) &&& x.toBitVec).toNat = (BitVec.ofNat 32 (m &&& x.toBitVec.toNat)).toNat
  rw [BitVec.toNat_and, BitVec.toNat_ofNat, BitVec.toNat_ofNat, Nat.mod_eq_of_lt (show m < 2 ^ 32 by omega)]
  have : m &&& x.toBitVec.toNat ≤ m := Nat.and_le_left
  rw [Nat.mod_eq_of_lt (by omega)]
theorem smS_hours {stp : Int32 → Int32} (hs : ∀ k, Sml (stp k)) : ∀ (d s : Nat) (f : Nat → Int32), smS (hrF stp s d f) 0 8 0 = lgS stp s d (smS f 0 8 0) := by
  intro d
  induction d with
  | zero => intro s f; rfl
  | succ d ih =>
    intro s f
    simp only [hrF, lgS]
    obtain ⟨m, hm, e⟩ := hs (nI s)
    rw [ih, e, smS_hour f hm]
theorem hrF_zero {stp : Int32 → Int32} {j : Nat} (hj : j < 8) (hs : ∀ k, hasB (stp k) (nI j) = false) : ∀ (d s : Nat) (f : Nat → Int32), f j = 0 → hrF stp s d f j = 0 := by
  intro d
  induction d with
  | zero => intro s f h; exact h
  | succ d ih =>
    intro s f h
    simp only [hrF]
    refine ih _ _ ?_
    rw [fset_lt hj]
    unfold addG
    rw [h, hs]
    rfl
section N1
variable {h : tw_H} {fl tc hk lw st hg ra rt rw nr tr : Int32} {nw n : Nat} {tf kd wt f34 f35 f : Nat → Int32}
theorem m_sum_loop (H : MZ h fl tc nw hk lw st hg ra rt rw n nr tr tf kd wt f34 f35) (h8 : nw ≤ 8) (hL : h.2.2 36 = some (iC 8 f)) : ∀ (d s : Nat) (acc : Int32), s + d = nw → tw_b 151 10 [.ref 27, .int acc, .int (nI s)] [] h = some (some (.int (smS f s d acc)), h) := by
  intro d
  induction d with
  | zero =>
    intro s acc hd
    have e : ¬ nI s < nI nw := nI_nlt (by omega) (by omega)
    rw [s151_10]
    simp [s151_0, s151_1, s151_3, s151_6, s151_7, s151_8, s151_9, s151_11, s151_12, s151_15, s151_18, s151_19, s151_20, s151_23, s151_24, s151_25, s151_26, s151_27, s151_30, s151_33, s151_34, tw_gf, H.1, e, smS]
  | succ d ih =>
    intro s acc hd
    have e : nI s < nI nw := nI_lt (by omega) (by omega)
    have ev := tw_vi_n (show s < 8 by omega) (by decide)
    have ec := nI_clamp (show s < 2 ^ 31 by omega)
    simp only [smS]
    rw [s151_10, ← ih (s + 1) _ (by omega)]
    simp [s151_0, s151_1, s151_3, s151_6, s151_7, s151_8, s151_9, s151_11, s151_12, s151_15, s151_18, s151_19, s151_20, s151_23, s151_24, s151_25, s151_26, s151_27, s151_30, s151_33, s151_34, tw_gf, tw_ia, H.1, hL, e, ev, ec, nI_1]
theorem m_sum_pure {stp : Int32 → Int32} (h8 : nw ≤ 8) (hs : ∀ k, Sml (stp k)) (hz : ∀ k, HB nw (stp k)) (f : Nat → Int32) : smS (hrF stp 0 60 (fset f (fun _ => 0) 8)) 0 nw 0 = lgS stp 0 60 0 := by
  have h1 := smS_hours hs 60 0 (fset f (fun _ => 0) 8)
  have h2 : smS (fset f (fun _ => 0) 8) 0 8 0 = 0 := smS_zero 8 0 0 (fun j _ h => fset_lt (by omega))
  rw [h2] at h1
  rw [← h1, show (8 : Nat) = nw + (8 - nw) by omega, smS_app nw 0 (8 - nw) 0]
  rw [show nw + (8 - nw) = 8 by omega]
  exact (smS_zero (8 - nw) (0 + nw) _ (fun j j1 j2 => hrF_zero (by omega) (fun k => hz k j (by omega) (by omega)) 60 0 _ (fset_lt (by omega)))).symm
theorem m_lateAll (H : MZ h fl tc nw hk lw st hg ra rt rw n nr tr tf kd wt f34 f35) (h8 : nw ≤ 8) (hn : n ≤ 7) (hb : HB nw hk) (hsm : Sml hk) (hT : Tid tc st) (hL : h.2.2 36 = some (iC 8 f)) : ∃ f', tw_b 151 0 [.ref 27, tw_un, tw_un] [] h = some (some (.int (lgS (stM nw kd wt hg lw hk tc tf n f34 f35 st) 0 60 0)), tw_set h 36 (iC 8 f')) := by
  have hg' := m_goTo H h8 hn hb hT hL (show 59 < 60 by decide)
  rw [show nI 59 = 59 from rfl] at hg'
  have hl := m_sum_loop (H.set (a := 36) (e := iC 8 (hrF (stM nw kd wt hg lw hk tc tf n f34 f35 st) 0 60 (fset f (fun _ => 0) 8))) (by omega)) h8 (by rw [tw_sg, if_pos rfl]) nw 0 0 (by omega)
  rw [nI_0, m_sum_pure (stp := stM nw kd wt hg lw hk tc tf n f34 f35 st) h8 (fun k => hsm.and _) (fun k => stM_no hb k)] at hl
  refine ⟨hrF (stM nw kd wt hg lw hk tc tf n f34 f35 st) 0 60 (fset f (fun _ => 0) 8), ?_⟩
  simp [s151_0, s151_1, s151_3, s151_6, s151_7, s151_8, s151_9, s151_11, s151_12, s151_15, s151_18, s151_19, s151_20, s151_23, s151_24, s151_25, s151_26, s151_27, s151_30, s151_33, s151_34, mco H.1, hg', hl]
/-- a base whose storms are changed -/
def m4 (h : tw_H) (m : tw_C) (a b f : Nat → Int32) : tw_H := m2 (tw_set (tw_set h 34 (iC 7 a)) 35 (iC 7 b)) m f
theorem m4_27 {m : tw_C} {a b : Nat → Int32} : (m4 h m a b f).2.2 27 = some m := m2_27
theorem m4_36 {m : tw_C} {a b : Nat → Int32} : (m4 h m a b f).2.2 36 = some (iC 8 f) := m2_36
theorem m4_34 {m : tw_C} {a b : Nat → Int32} : (m4 h m a b f).2.2 34 = some (iC 7 a) := by simp [m4, m2, tw_sg]
theorem m4_35 {m : tw_C} {a b : Nat → Int32} : (m4 h m a b f).2.2 35 = some (iC 7 b) := by simp [m4, m2, tw_sg]
theorem m4_s27 {m m' : tw_C} {a b : Nat → Int32} : tw_set (m4 h m a b f) 27 m' = m4 h m' a b f := m2_s27
theorem m4_s36 {m : tw_C} {a b g : Nat → Int32} : tw_set (m4 h m a b f) 36 (iC 8 g) = m4 h m a b g := m2_s36
theorem m4_s34 {m : tw_C} {a b a' : Nat → Int32} : tw_set (m4 h m a b f) 34 (iC 7 a') = m4 h m a' b f := by
  unfold m4 m2
  rw [tw_sc _ _ _ (show (36 : Nat) ≠ 34 by decide), tw_sc _ _ _ (show (27 : Nat) ≠ 34 by decide), tw_sc _ _ _ (show (35 : Nat) ≠ 34 by decide), tw_ss]
theorem m4_s35 {m : tw_C} {a b b' : Nat → Int32} : tw_set (m4 h m a b f) 35 (iC 7 b') = m4 h m a b' f := by
  unfold m4 m2
  rw [tw_sc _ _ _ (show (36 : Nat) ≠ 35 by decide), tw_sc _ _ _ (show (27 : Nat) ≠ 35 by decide), tw_ss]
theorem m4_i {m : tw_C} {a b : Nat → Int32} (h1 : h.2.2 27 = some m) (h2 : h.2.2 34 = some (iC 7 a)) (h3 : h.2.2 35 = some (iC 7 b)) (h4 : h.2.2 36 = some (iC 8 f)) : m4 h m a b f = h := by
  unfold m4
  rw [tw_si h h2, tw_si h h3, m2_i h1 h4]
theorem MZ.m4 {a b : Nat → Int32} (H : MZ h fl tc nw hk lw st hg ra rt rw n nr tr tf kd wt f34 f35) (n' : Nat) (f : Nat → Int32) : MZ (m4 h (mC fl tc (nI nw) hk lw st hg ra rt rw (nI n') nr tr) a b f) fl tc nw hk lw st hg ra rt rw n' nr tr tf kd wt a b := by
  refine ⟨m4_27, ?_, ?_, ?_, m4_34, m4_35⟩
  · have := H.2.1; unfold Jvm.Pilot.CTideWheelsLaw_law_r1410_a4ad98.m4 Jvm.Pilot.CTideWheelsLaw_law_r1410_a4ad98.m2; simpa [tw_sg] using this
  · have := H.2.2.1; unfold Jvm.Pilot.CTideWheelsLaw_law_r1410_a4ad98.m4 Jvm.Pilot.CTideWheelsLaw_law_r1410_a4ad98.m2; simpa [tw_sg] using this
  · have := H.2.2.2.1; unfold Jvm.Pilot.CTideWheelsLaw_law_r1410_a4ad98.m4 Jvm.Pilot.CTideWheelsLaw_law_r1410_a4ad98.m2; simpa [tw_sg] using this
def hpM (its : Int32 → Int32) : Nat → Nat → Int32 → Int32 → Int32 × Int32
  | _, 0, least, best => (least, best)
  | s, d + 1, least, best => if its (nI s) < least then hpM its (s + 1) d (its (nI s)) (nI s) else hpM its (s + 1) d least best
theorem m_help_loop (H : MZ h fl tc nw hk lw st hg ra rt rw n nr tr tf kd wt f34 f35) (h8 : nw ≤ 8) (hn : n ≤ 6) (hb : HB nw hk) (hsm : Sml hk) (hT : Tid tc st) (v what : Int32) (b : Nat → Int32) : ∀ (d s : Nat) (least best : Int32) (v6 : Value) (a f : Nat → Int32), s + d = 60 → (∀ j, j < n → a j = f34 j) → ∃ a' f', tw_b 150 71 [.ref 27, .int v, .int what, .int best, .int least, .int (nI s), v6] [] (m4 h (mC fl tc (nI nw) hk lw st hg ra rt rw (nI (n + 1)) nr tr) a b f) = some (some (.int (let r := hpM (fun hour => lgS (stM nw kd wt hg lw hk tc tf (n + 1) (upd f34 n hour) b st) 0 60 0) s d least best; if what = 0 then r.2 else r.1)), m4 h (mC fl tc (nI nw) hk lw st hg ra rt rw (nI n) nr tr) a' b f') ∧ ∀ j, j < n → a' j = f34 j := by
  intro d
  induction d with
  | zero =>
    intro s least best v6 a f hd ha
    have e1 : ¬ nI s < 60 := nI_nlt (b := 60) (by omega) (by omega)
    refine ⟨a, f, ?_, ha⟩
    rw [s150_71]
    by_cases q : what = 0 <;> simp [s150_0, s150_1, s150_2, s150_5, s150_8, s150_11, s150_14, s150_15, s150_16, s150_17, s150_18, s150_21, s150_24, s150_26, s150_27, s150_28, s150_31, s150_34, s150_36, s150_37, s150_39, s150_40, s150_41, s150_44, s150_46, s150_47, s150_48, s150_51, s150_52, s150_53, s150_56, s150_57, s150_60, s150_61, s150_64, s150_65, s150_66, s150_67, s150_68, s150_69, s150_73, s150_75, s150_78, s150_79, s150_82, s150_83, s150_86, s150_87, s150_88, s150_90, s150_91, s150_92, s150_95, s150_97, s150_99, s150_101, s150_104, s150_106, s150_109, s150_110, s150_111, s150_113, s150_115, s150_118, s150_120, s150_123, s150_125, s150_127, s150_130, s150_133, s150_134, s150_135, s150_138, s150_139, s150_140, s150_143, s150_144, s150_147, s150_148, s150_151, s150_153, tw_gf, tw_sf, tw_fit, m4_27, m4_s27, e1, hpM, q, nI_pred]
  | succ d ih =>
    intro s least best v6 a f hd ha
    have e1 : nI s < 60 := nI_lt (b := 60) (by omega) (by omega)
    have ev := tw_vi_n (show n < 7 by omega) (by decide)
    have ec := nI_clamp (show n < 2 ^ 31 by omega)
    have hu : ∀ j, j < n → upd a n (nI s) j = f34 j := fun j hj => by unfold upd; rw [if_neg (by omega)]; exact ha j hj
    obtain ⟨f1, el⟩ := m_lateAll (H.m4 (a := upd a n (nI s)) (b := b) (n + 1) f) h8 (by omega) hb hsm hT m4_36
    rw [m4_s36] at el
    have ek : lgS (stM nw kd wt hg lw hk tc tf (n + 1) (upd a n (nI s)) b st) 0 60 0 = lgS (stM nw kd wt hg lw hk tc tf (n + 1) (upd f34 n (nI s)) b st) 0 60 0 := by
      have : ∀ hour, strM tc tf (n + 1) (upd a n (nI s)) b st hour = strM tc tf (n + 1) (upd f34 n (nI s)) b st hour := fun hour => by
        unfold strM
        have : ∀ (d s1 : Nat) (acc : Int32), s1 + d = n + 1 → stS (upd a n (nI s)) b hour s1 d acc = stS (upd f34 n (nI s)) b hour s1 d acc := by
          intro d
          induction d with
          | zero => intro s1 acc _; rfl
          | succ d ih =>
            intro s1 acc hs1
            have : upd a n (nI s) s1 = upd f34 n (nI s) s1 := by
              unfold upd
              by_cases q : s1 = n
              · rw [if_pos q, if_pos q]
              · rw [if_neg q, if_neg q]; exact ha s1 (by omega)
            simp only [stS]
            rw [this]
            exact ih (s1 + 1) _ (by omega)
        rw [this (n + 1) 0 _ (by omega)]
      unfold stM
      simp only [this]
    rw [ek] at el
    simp only [hpM]
    by_cases q : lgS (stM nw kd wt hg lw hk tc tf (n + 1) (upd f34 n (nI s)) b st) 0 60 0 < least
    · obtain ⟨a', f', ih', iha⟩ := ih (s + 1) (lgS (stM nw kd wt hg lw hk tc tf (n + 1) (upd f34 n (nI s)) b st) 0 60 0) (nI s) (.int (lgS (stM nw kd wt hg lw hk tc tf (n + 1) (upd f34 n (nI s)) b st) 0 60 0)) (upd a n (nI s)) f1 (by omega) hu
      refine ⟨a', f', ?_, iha⟩
      rw [if_pos q, ← ih', s150_71]
      simp [s150_0, s150_1, s150_2, s150_5, s150_8, s150_11, s150_14, s150_15, s150_16, s150_17, s150_18, s150_21, s150_24, s150_26, s150_27, s150_28, s150_31, s150_34, s150_36, s150_37, s150_39, s150_40, s150_41, s150_44, s150_46, s150_47, s150_48, s150_51, s150_52, s150_53, s150_56, s150_57, s150_60, s150_61, s150_64, s150_65, s150_66, s150_67, s150_68, s150_69, s150_73, s150_75, s150_78, s150_79, s150_82, s150_83, s150_86, s150_87, s150_88, s150_90, s150_91, s150_92, s150_95, s150_97, s150_99, s150_101, s150_104, s150_106, s150_109, s150_110, s150_111, s150_113, s150_115, s150_118, s150_120, s150_123, s150_125, s150_127, s150_130, s150_133, s150_134, s150_135, s150_138, s150_139, s150_140, s150_143, s150_144, s150_147, s150_148, s150_151, s150_153, tw_gf, tw_sf, tw_ix, tw_fit, m4_27, m4_34, m4_s34, mco m4_27, e1, nI_pred, ev, ec, el, q, nI_1]
    · obtain ⟨a', f', ih', iha⟩ := ih (s + 1) least best (.int (lgS (stM nw kd wt hg lw hk tc tf (n + 1) (upd f34 n (nI s)) b st) 0 60 0)) (upd a n (nI s)) f1 (by omega) hu
      refine ⟨a', f', ?_, iha⟩
      rw [if_neg q, ← ih', s150_71]
      simp [s150_0, s150_1, s150_2, s150_5, s150_8, s150_11, s150_14, s150_15, s150_16, s150_17, s150_18, s150_21, s150_24, s150_26, s150_27, s150_28, s150_31, s150_34, s150_36, s150_37, s150_39, s150_40, s150_41, s150_44, s150_46, s150_47, s150_48, s150_51, s150_52, s150_53, s150_56, s150_57, s150_60, s150_61, s150_64, s150_65, s150_66, s150_67, s150_68, s150_69, s150_73, s150_75, s150_78, s150_79, s150_82, s150_83, s150_86, s150_87, s150_88, s150_90, s150_91, s150_92, s150_95, s150_97, s150_99, s150_101, s150_104, s150_106, s150_109, s150_110, s150_111, s150_113, s150_115, s150_118, s150_120, s150_123, s150_125, s150_127, s150_130, s150_133, s150_134, s150_135, s150_138, s150_139, s150_140, s150_143, s150_144, s150_147, s150_148, s150_151, s150_153, tw_gf, tw_sf, tw_ix, tw_fit, m4_27, m4_34, m4_s34, mco m4_27, e1, nI_pred, ev, ec, el, q, nI_1]
theorem m_help (H : MZ h fl tc nw hk lw st hg ra rt rw n nr tr tf kd wt f34 f35) (h8 : nw ≤ 8) (hn : n ≤ 6) (hb : HB nw hk) (hsm : Sml hk) (hT : Tid tc st) (hL : h.2.2 36 = some (iC 8 f)) (v what : Int32) (h1 : ¬ v < -59 ∧ ¬ 59 < v) (h2 : ¬ what < 0 ∧ ¬ 1 < what) (hw : ¬ nI nw = 0) : ∃ a' f', tw_b 150 0 [.ref 27, .int v, .int what, tw_un, tw_un, tw_un, tw_un] [] h = some (some (.int (let now := lgS (stM nw kd wt hg lw hk tc tf n f34 f35 st) 0 60 0; let r := hpM (fun hour => lgS (stM nw kd wt hg lw hk tc tf (n + 1) (upd f34 n hour) (upd f35 n v) st) 0 60 0) 0 60 now (-9); if what = 0 then r.2 else r.1)), m4 h (mC fl tc (nI nw) hk lw st hg ra rt rw (nI n) nr tr) a' (upd f35 n v) f') ∧ ∀ j, j < n → a' j = f34 j := by
  obtain ⟨f0, el⟩ := m_lateAll H h8 (by omega) hb hsm hT hL
  have ev := tw_vi_n (show n < 7 by omega) (by decide)
  have ec := nI_clamp (show n < 2 ^ 31 by omega)
  have e0 : tw_set h 36 (iC 8 f0) = m4 h (mC fl tc (nI nw) hk lw st hg ra rt rw (nI n) nr tr) f34 f35 f0 := by
    unfold m4
    rw [tw_si h H.2.2.2.2.1, tw_si h H.2.2.2.2.2, m2_j H.1]
  rw [e0] at el
  obtain ⟨a', f', hl, ha⟩ := m_help_loop H h8 hn hb hsm hT v what (upd f35 n v) 60 0 (lgS (stM nw kd wt hg lw hk tc tf n f34 f35 st) 0 60 0) (-9) tw_un f34 f0 (by omega) (fun j _ => rfl)
  rw [nI_0] at hl
  refine ⟨a', f', ?_, ha⟩
  have i1 : ((-59 : Int64) ≤ v.toInt64) = ¬ v < -59 := l_ge v (-59) (-59) rfl
  have i2 : (v.toInt64 ≤ (59 : Int64)) = ¬ 59 < v := l_le v 59 59 rfl
  have i3 : ((0 : Int64) ≤ what.toInt64) = ¬ what < 0 := l_ge what 0 0 rfl
  have i4 : (what.toInt64 ≤ (1 : Int64)) = ¬ 1 < what := l_le what 1 1 rfl
  simp only [s150_0, s150_1, s150_2, s150_5, s150_8, s150_11, s150_14, s150_15, s150_16, s150_17, s150_18, s150_21, s150_24, s150_26, s150_27, s150_28, s150_31, s150_34, s150_36, s150_37, s150_39, s150_40, s150_41, s150_44, s150_46, s150_47, s150_48, s150_51, s150_52, s150_53, s150_56, s150_57, s150_60, s150_61, s150_64, s150_65, s150_66, s150_67, s150_68, s150_69, s150_73, s150_75, s150_78, s150_79, s150_82, s150_83, s150_86, s150_87, s150_88, s150_90, s150_91, s150_92, s150_95, s150_97, s150_99, s150_101, s150_104, s150_106, s150_109, s150_110, s150_111, s150_113, s150_115, s150_118, s150_120, s150_123, s150_125, s150_127, s150_130, s150_133, s150_134, s150_135, s150_138, s150_139, s150_140, s150_143, s150_144, s150_147, s150_148, s150_151, s150_153, m_in, i1, i2, i3, i4, h1, h2, Option.bind_some, Option.bind_none, Option.toList_some, Option.toList_none, List.cons_append, List.nil_append, not_false_eq_true, and_self, decide_true, tw_bi_0, Bool.true_eq_false, if_false, tw_gf, H.1, List.mem_singleton, List.getElem?_cons_succ, List.getElem?_cons_zero, ne_eq, hw, mco H.1, el]
  simp [s150_0, s150_1, s150_2, s150_5, s150_8, s150_11, s150_14, s150_15, s150_16, s150_17, s150_18, s150_21, s150_24, s150_26, s150_27, s150_28, s150_31, s150_34, s150_36, s150_37, s150_39, s150_40, s150_41, s150_44, s150_46, s150_47, s150_48, s150_51, s150_52, s150_53, s150_56, s150_57, s150_60, s150_61, s150_64, s150_65, s150_66, s150_67, s150_68, s150_69, s150_73, s150_75, s150_78, s150_79, s150_82, s150_83, s150_86, s150_87, s150_88, s150_90, s150_91, s150_92, s150_95, s150_97, s150_99, s150_101, s150_104, s150_106, s150_109, s150_110, s150_111, s150_113, s150_115, s150_118, s150_120, s150_123, s150_125, s150_127, s150_130, s150_133, s150_134, s150_135, s150_138, s150_139, s150_140, s150_143, s150_144, s150_147, s150_148, s150_151, s150_153, tw_gf, tw_sf, tw_ix, tw_fit, H.1, hw, mco H.1, el, m4_27, m4_35, m4_s27, m4_s35, nI_1, nI_pred, ev, ec, hl]
end N1
