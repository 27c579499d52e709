/-! the model with its object and its hours changed -/
def m2 (h : tw_H) (m : tw_C) (f : Nat → Int32) : tw_H := tw_set (tw_set h 27 m) 36 (iC 8 f)
section M7
variable {h : tw_H} {fl tc hk lw st hg ra rt rw tr : Int32} {nw n nr : Nat} {tf kd wt f34 f35 f g : Nat → Int32} {m m' : tw_C}
theorem m2_27 : (m2 h m f).2.2 27 = some m := by simp [m2, tw_sg]
theorem m2_36 : (m2 h m f).2.2 36 = some (iC 8 f) := by simp [m2, tw_sg]
theorem m2_s27 : tw_set (m2 h m f) 27 m' = m2 h m' f := by
  unfold m2
  rw [tw_sc _ _ _ (show (36 : Nat) ≠ 27 by decide), tw_ss]
theorem m2_s36 : tw_set (m2 h m f) 36 (iC 8 g) = m2 h m g := by
  unfold m2
  rw [tw_ss]
theorem m2_i (h1 : h.2.2 27 = some m) (h2 : h.2.2 36 = some (iC 8 f)) : m2 h m f = h := by
  unfold m2
  rw [tw_si h h1, tw_si h h2]
theorem m2_j (h1 : h.2.2 27 = some m) : m2 h m f = tw_set h 36 (iC 8 f) := by
  unfold m2
  rw [tw_si h h1]
theorem m2_co {fl' tc' wc' hk' lw' st' hg' ra' rt' rw' ns' nr' tr' : Int32} : tw_co (m2 h (mC fl' tc' wc' hk' lw' st' hg' ra' rt' rw' ns' nr' tr') f) 27 = some 11 := mco m2_27
theorem MZ.m2 {nr : Int32} (H : MZ h fl tc nw hk lw st hg ra rt rw n nr tr tf kd wt f34 f35) (hk' lw' st' hg' : Int32) (f : Nat → Int32) : MZ (m2 h (mC fl tc (nI nw) hk' lw' st' hg' ra rt rw (nI n) nr tr) f) fl tc nw hk' lw' st' hg' ra rt rw n nr tr tf kd wt f34 f35 := by
  unfold MZ at H ⊢
  refine ⟨m2_27, ?_⟩
  unfold Jvm.Pilot.CTideWheelsLaw_law_r1410_a4ad98.m2
  simp only [tw_sg]
  simpa using H.2
theorem MR.m2 {rw rh ra : Nat → Int32} (H : MR h nr rw rh ra) (m : tw_C) (f : Nat → Int32) : MR (m2 h m f) nr rw rh ra := (H.set (a := 27) (by omega)).set (a := 36) (by omega)
theorem m_starts_loop {r1 r2 r3 : Nat → Int32} {nt : Nat} (H : MZ h fl (nI nt) nw hk lw st hg ra rt rw n (nI nr) tr tf kd wt f34 f35) (h8 : nw ≤ 8) (hn : n ≤ 7) (hb : HB nw hk) (hT : ∀ v, v < nt → Tid (nI nt) (nI v)) (hnt : nt < 2 ^ 30) (hR : MR h nr r1 r2 r3) (was : Int32) : ∀ (d s : Nat) (acc st' : Int32) (f : Nat → Int32), s + d = nt → ∃ f', tw_b 156 19 [.ref 27, .int was, .int acc, .int (nI s)] [] (m2 h (mC fl (nI nt) (nI nw) hk lw st' hg ra rt rw (nI n) (nI nr) tr) f) = some (some (.int (seS (fun v => ftZ (stM nw kd wt hg lw hk (nI nt) tf n f34 f35 (nI v)) r1 r2 r3 nr) s d acc)), m2 h (mC fl (nI nt) (nI nw) hk lw was hg ra rt rw (nI n) (nI nr) tr) f') := by
  have eb : ∀ s, (1 : Int32) <<< (nI s &&& 31) = bitI (nI s) := fun s => rfl
  intro d
  induction d with
  | zero =>
    intro s acc st' f hd
    have e1 : ¬ nI s < nI nt := nI_nlt (by omega) (by omega)
    refine ⟨f, ?_⟩
    rw [s156_19]
    simp [s156_0, s156_1, s156_4, s156_7, s156_9, s156_10, s156_11, s156_14, s156_15, s156_16, s156_17, s156_18, s156_20, s156_21, s156_24, s156_27, s156_28, s156_29, s156_32, s156_33, s156_34, s156_37, s156_40, s156_41, s156_42, s156_43, s156_46, s156_47, s156_48, s156_49, s156_52, s156_55, s156_56, s156_57, s156_60, s156_61, tw_gf, tw_sf, tw_fit, m2_27, m2_s27, e1, seS]
  | succ d ih =>
    intro s acc st' f hd
    have e1 : nI s < nI nt := nI_lt (by omega) (by omega)
    obtain ⟨f1, ea⟩ := m_areSo (H.m2 hk lw (nI s) hg f) h8 hn hb (hT s (by omega)) (hR.m2 _ f) m2_36
    obtain ⟨f', ih'⟩ := ih (s + 1) (acc ||| if ftZ (stM nw kd wt hg lw hk (nI nt) tf n f34 f35 (nI s)) r1 r2 r3 nr = true then bitI (nI s) else 0) (nI s) f1 (by omega)
    refine ⟨f', ?_⟩
    rw [m2_s36] at ea
    simp only [seS]
    rw [← ih', s156_19]
    by_cases q : ftZ (stM nw kd wt hg lw hk (nI nt) tf n f34 f35 (nI s)) r1 r2 r3 nr = true
    · simp [s156_0, s156_1, s156_4, s156_7, s156_9, s156_10, s156_11, s156_14, s156_15, s156_16, s156_17, s156_18, s156_20, s156_21, s156_24, s156_27, s156_28, s156_29, s156_32, s156_33, s156_34, s156_37, s156_40, s156_41, s156_42, s156_43, s156_46, s156_47, s156_48, s156_49, s156_52, s156_55, s156_56, s156_57, s156_60, s156_61, tw_gf, tw_sf, tw_fit, m2_27, m2_s27, m2_co, e1, ea, q, tw_bi_0, eb, nI_1]
    · simp [s156_0, s156_1, s156_4, s156_7, s156_9, s156_10, s156_11, s156_14, s156_15, s156_16, s156_17, s156_18, s156_20, s156_21, s156_24, s156_27, s156_28, s156_29, s156_32, s156_33, s156_34, s156_37, s156_40, s156_41, s156_42, s156_43, s156_46, s156_47, s156_48, s156_49, s156_52, s156_55, s156_56, s156_57, s156_60, s156_61, tw_gf, tw_sf, tw_fit, m2_27, m2_s27, m2_co, e1, ea, q, tw_bi_0, eb, nI_1]
theorem m_starts {r1 r2 r3 : Nat → Int32} {nt : Nat} (H : MZ h fl (nI nt) nw hk lw st hg ra rt rw n (nI nr) tr tf kd wt f34 f35) (h8 : nw ≤ 8) (hn : n ≤ 7) (hb : HB nw hk) (hT : ∀ v, v < nt → Tid (nI nt) (nI v)) (hnt : nt < 2 ^ 30) (hR : MR h nr r1 r2 r3) (hL : h.2.2 36 = some (iC 8 f)) (hw : ¬ nI nw = 0) : ∃ f', tw_b 156 0 [.ref 27, tw_un, tw_un, tw_un] [] h = some (some (.int (seS (fun v => ftZ (stM nw kd wt hg lw hk (nI nt) tf n f34 f35 (nI v)) r1 r2 r3 nr) 0 nt 0)), tw_set h 36 (iC 8 f')) := by
  obtain ⟨f', hl⟩ := m_starts_loop H h8 hn hb hT hnt hR st nt 0 0 st f (by omega)
  rw [nI_0, m2_i H.1 hL, m2_j H.1] at hl
  refine ⟨f', ?_⟩
  simp [s156_0, s156_1, s156_4, s156_7, s156_9, s156_10, s156_11, s156_14, s156_15, s156_16, s156_17, s156_18, s156_20, s156_21, s156_24, s156_27, s156_28, s156_29, s156_32, s156_33, s156_34, s156_37, s156_40, s156_41, s156_42, s156_43, s156_46, s156_47, s156_48, s156_49, s156_52, s156_55, s156_56, s156_57, s156_60, s156_61, tw_gf, H.1, hw, hl]
theorem m_laws_loop {r1 r2 r3 : Nat → Int32} (H : MZ h fl tc nw hk lw st hg ra rt rw n (nI nr) tr tf kd wt f34 f35) (h8 : nw ≤ 8) (hn : n ≤ 7) (hb : HB nw hk) (hT : Tid tc st) (hR : MR h nr r1 r2 r3) (was : Int32) : ∀ (d s : Nat) (acc lw' : Int32) (f : Nat → Int32), s + d = 3 → ∃ f', tw_b 158 19 [.ref 27, .int was, .int acc, .int (nI s)] [] (m2 h (mC fl tc (nI nw) hk lw' st hg ra rt rw (nI n) (nI nr) tr) f) = some (some (.int (seS (fun v => ftZ (stM nw kd wt hg (nI v) hk tc tf n f34 f35 st) r1 r2 r3 nr) s d acc)), m2 h (mC fl tc (nI nw) hk was st hg ra rt rw (nI n) (nI nr) tr) f') := by
  have eb : ∀ s, (1 : Int32) <<< (nI s &&& 31) = bitI (nI s) := fun s => rfl
  intro d
  induction d with
  | zero =>
    intro s acc lw' f hd
    have e1 : ¬ nI s < 3 := nI_nlt (b := 3) (by omega) (by omega)
    refine ⟨f, ?_⟩
    rw [s158_19]
    simp [s158_0, s158_1, s158_4, s158_7, s158_9, s158_10, s158_11, s158_14, s158_15, s158_16, s158_17, s158_18, s158_20, s158_21, s158_24, s158_25, s158_26, s158_29, s158_30, s158_31, s158_34, s158_37, s158_38, s158_39, s158_40, s158_43, s158_44, s158_45, s158_46, s158_49, s158_52, s158_53, s158_54, s158_57, s158_58, tw_gf, tw_sf, tw_fit, m2_27, m2_s27, e1, seS]
  | succ d ih =>
    intro s acc lw' f hd
    have e1 : nI s < 3 := nI_lt (b := 3) (by omega) (by omega)
    obtain ⟨f1, ea⟩ := m_areSo (H.m2 hk (nI s) st hg f) h8 hn hb hT (hR.m2 _ f) m2_36
    obtain ⟨f', ih'⟩ := ih (s + 1) (acc ||| if ftZ (stM nw kd wt hg (nI s) hk tc tf n f34 f35 st) r1 r2 r3 nr = true then bitI (nI s) else 0) (nI s) f1 (by omega)
    refine ⟨f', ?_⟩
    rw [m2_s36] at ea
    simp only [seS]
    rw [← ih', s158_19]
    by_cases q : ftZ (stM nw kd wt hg (nI s) hk tc tf n f34 f35 st) r1 r2 r3 nr = true
    · simp [s158_0, s158_1, s158_4, s158_7, s158_9, s158_10, s158_11, s158_14, s158_15, s158_16, s158_17, s158_18, s158_20, s158_21, s158_24, s158_25, s158_26, s158_29, s158_30, s158_31, s158_34, s158_37, s158_38, s158_39, s158_40, s158_43, s158_44, s158_45, s158_46, s158_49, s158_52, s158_53, s158_54, s158_57, s158_58, tw_gf, tw_sf, tw_fit, m2_27, m2_s27, m2_co, e1, ea, q, tw_bi_0, eb, nI_1]
    · simp [s158_0, s158_1, s158_4, s158_7, s158_9, s158_10, s158_11, s158_14, s158_15, s158_16, s158_17, s158_18, s158_20, s158_21, s158_24, s158_25, s158_26, s158_29, s158_30, s158_31, s158_34, s158_37, s158_38, s158_39, s158_40, s158_43, s158_44, s158_45, s158_46, s158_49, s158_52, s158_53, s158_54, s158_57, s158_58, tw_gf, tw_sf, tw_fit, m2_27, m2_s27, m2_co, e1, ea, q, tw_bi_0, eb, nI_1]
theorem m_laws {r1 r2 r3 : Nat → Int32} (H : MZ h fl tc nw hk lw st hg ra rt rw n (nI nr) tr tf kd wt f34 f35) (h8 : nw ≤ 8) (hn : n ≤ 7) (hb : HB nw hk) (hT : Tid tc st) (hR : MR h nr r1 r2 r3) (hL : h.2.2 36 = some (iC 8 f)) (hw : ¬ nI nw = 0) : ∃ f', tw_b 158 0 [.ref 27, tw_un, tw_un, tw_un] [] h = some (some (.int (seS (fun v => ftZ (stM nw kd wt hg (nI v) hk tc tf n f34 f35 st) r1 r2 r3 nr) 0 3 0)), tw_set h 36 (iC 8 f')) := by
  obtain ⟨f', hl⟩ := m_laws_loop H h8 hn hb hT hR lw 3 0 0 lw f (by omega)
  rw [nI_0, m2_i H.1 hL, m2_j H.1] at hl
  refine ⟨f', ?_⟩
  simp [s158_0, s158_1, s158_4, s158_7, s158_9, s158_10, s158_11, s158_14, s158_15, s158_16, s158_17, s158_18, s158_20, s158_21, s158_24, s158_25, s158_26, s158_29, s158_30, s158_31, s158_34, s158_37, s158_38, s158_39, s158_40, s158_43, s158_44, s158_45, s158_46, s158_49, s158_52, s158_53, s158_54, s158_57, s158_58, tw_gf, H.1, hw, hl]
theorem m_hung_loop {r1 r2 r3 : Nat → Int32} (H : MZ h fl tc nw hk lw st hg ra rt rw n (nI nr) tr tf kd wt f34 f35) (h8 : nw ≤ 8) (hn : n ≤ 7) (hb : HB nw hk) (hT : Tid tc st) (hR : MR h nr r1 r2 r3) : ∀ (d s : Nat) (acc hg' : Int32) (f : Nat → Int32), s + d = nw → ∃ f', tw_b 159 14 [.ref 27, .int acc, .int (nI s)] [] (m2 h (mC fl tc (nI nw) hk lw st hg' ra rt rw (nI n) (nI nr) tr) f) = some (some (.int (seS (fun v => ftZ (stM nw kd wt (nI v) lw hk tc tf n f34 f35 st) r1 r2 r3 nr) s d acc)), m2 h (mC fl tc (nI nw) hk lw st (-9) ra rt rw (nI n) (nI nr) tr) f') := by
  have eb : ∀ s, (1 : Int32) <<< (nI s &&& 31) = bitI (nI s) := fun s => rfl
  intro d
  induction d with
  | zero =>
    intro s acc hg' f hd
    have e1 : ¬ nI s < nI nw := nI_nlt (by omega) (by omega)
    refine ⟨f, ?_⟩
    rw [s159_14]
    simp [s159_0, s159_1, s159_4, s159_7, s159_9, s159_10, s159_11, s159_12, s159_13, s159_15, s159_16, s159_19, s159_22, s159_23, s159_24, s159_27, s159_28, s159_29, s159_32, s159_35, s159_36, s159_37, s159_38, s159_41, s159_42, s159_43, s159_44, s159_47, s159_50, s159_51, s159_53, s159_56, s159_57, tw_gf, tw_sf, tw_fit, m2_27, m2_s27, e1, seS]
  | succ d ih =>
    intro s acc hg' f hd
    have e1 : nI s < nI nw := nI_lt (by omega) (by omega)
    obtain ⟨f1, ea⟩ := m_areSo (H.m2 hk lw st (nI s) f) h8 hn hb hT (hR.m2 _ f) m2_36
    obtain ⟨f', ih'⟩ := ih (s + 1) (acc ||| if ftZ (stM nw kd wt (nI s) lw hk tc tf n f34 f35 st) r1 r2 r3 nr = true then bitI (nI s) else 0) (nI s) f1 (by omega)
    refine ⟨f', ?_⟩
    rw [m2_s36] at ea
    simp only [seS]
    rw [← ih', s159_14]
    by_cases q : ftZ (stM nw kd wt (nI s) lw hk tc tf n f34 f35 st) r1 r2 r3 nr = true
    · simp [s159_0, s159_1, s159_4, s159_7, s159_9, s159_10, s159_11, s159_12, s159_13, s159_15, s159_16, s159_19, s159_22, s159_23, s159_24, s159_27, s159_28, s159_29, s159_32, s159_35, s159_36, s159_37, s159_38, s159_41, s159_42, s159_43, s159_44, s159_47, s159_50, s159_51, s159_53, s159_56, s159_57, tw_gf, tw_sf, tw_fit, m2_27, m2_s27, m2_co, e1, ea, q, tw_bi_0, eb, nI_1]
    · simp [s159_0, s159_1, s159_4, s159_7, s159_9, s159_10, s159_11, s159_12, s159_13, s159_15, s159_16, s159_19, s159_22, s159_23, s159_24, s159_27, s159_28, s159_29, s159_32, s159_35, s159_36, s159_37, s159_38, s159_41, s159_42, s159_43, s159_44, s159_47, s159_50, s159_51, s159_53, s159_56, s159_57, tw_gf, tw_sf, tw_fit, m2_27, m2_s27, m2_co, e1, ea, q, tw_bi_0, eb, nI_1]
theorem m_hung {r1 r2 r3 : Nat → Int32} (H : MZ h fl tc nw hk lw st (-9) ra rt rw n (nI nr) tr tf kd wt f34 f35) (h8 : nw ≤ 8) (hn : n ≤ 7) (hb : HB nw hk) (hT : Tid tc st) (hR : MR h nr r1 r2 r3) (hL : h.2.2 36 = some (iC 8 f)) (hw : ¬ nI nw = 0) : ∃ f', tw_b 159 0 [.ref 27, tw_un, tw_un] [] h = some (some (.int (seS (fun v => ftZ (stM nw kd wt (nI v) lw hk tc tf n f34 f35 st) r1 r2 r3 nr) 0 nw 0)), tw_set h 36 (iC 8 f')) := by
  obtain ⟨f', hl⟩ := m_hung_loop H h8 hn hb hT hR nw 0 0 (-9) f (by omega)
  rw [nI_0, m2_i H.1 hL, m2_j H.1] at hl
  refine ⟨f', ?_⟩
  simp [s159_0, s159_1, s159_4, s159_7, s159_9, s159_10, s159_11, s159_12, s159_13, s159_15, s159_16, s159_19, s159_22, s159_23, s159_24, s159_27, s159_28, s159_29, s159_32, s159_35, s159_36, s159_37, s159_38, s159_41, s159_42, s159_43, s159_44, s159_47, s159_50, s159_51, s159_53, s159_56, s159_57, tw_gf, H.1, hw, hl]
theorem m_freed_loop {r1 r2 r3 : Nat → Int32} (H : MZ h fl tc nw hk lw st hg ra rt rw n (nI nr) tr tf kd wt f34 f35) (h8 : nw ≤ 8) (hn : n ≤ 7) (hb : HB nw hk) (hT : Tid tc st) (hR : MR h nr r1 r2 r3) : ∀ (d s : Nat) (acc hk' : Int32) (f : Nat → Int32), s + d = nw → ∃ f', tw_b 160 19 [.ref 27, .int hk, .int acc, .int (nI s)] [] (m2 h (mC fl tc (nI nw) hk' lw st hg ra rt rw (nI n) (nI nr) tr) f) = some (some (.int (seS (fun v => ftZ (stM nw kd wt hg lw (hk &&& ~~~bitI (nI v)) tc tf n f34 f35 st) r1 r2 r3 nr) s d acc)), m2 h (mC fl tc (nI nw) hk lw st hg ra rt rw (nI n) (nI nr) tr) f') := by
  have eb : ∀ s, (1 : Int32) <<< (nI s &&& 31) = bitI (nI s) := fun s => rfl
  intro d
  induction d with
  | zero =>
    intro s acc hk' f hd
    have e1 : ¬ nI s < nI nw := nI_nlt (by omega) (by omega)
    refine ⟨f, ?_⟩
    rw [s160_19]
    simp [s160_0, s160_1, s160_4, s160_7, s160_9, s160_10, s160_11, s160_14, s160_15, s160_16, s160_17, s160_18, s160_20, s160_21, s160_24, s160_27, s160_28, s160_29, s160_30, s160_31, s160_32, s160_33, s160_34, s160_35, s160_38, s160_39, s160_40, s160_43, s160_46, s160_47, s160_48, s160_49, s160_52, s160_53, s160_54, s160_55, s160_58, s160_61, s160_62, s160_63, s160_66, s160_67, tw_gf, tw_sf, tw_fit, m2_27, m2_s27, e1, seS]
  | succ d ih =>
    intro s acc hk' f hd
    have e1 : nI s < nI nw := nI_lt (by omega) (by omega)
    have hb' := hb.minus (k := s) (by omega)
    rw [show bitI (nI s) ^^^ -1 = ~~~bitI (nI s) by simp] at hb'
    obtain ⟨f1, ea⟩ := m_areSo (H.m2 (hk &&& ~~~bitI (nI s)) lw st hg f) h8 hn hb' hT (hR.m2 _ f) m2_36
    obtain ⟨f', ih'⟩ := ih (s + 1) (acc ||| if ftZ (stM nw kd wt hg lw (hk &&& ~~~bitI (nI s)) tc tf n f34 f35 st) r1 r2 r3 nr = true then bitI (nI s) else 0) (hk &&& ~~~bitI (nI s)) f1 (by omega)
    refine ⟨f', ?_⟩
    rw [m2_s36] at ea
    simp only [seS]
    rw [← ih', s160_19]
    by_cases q : ftZ (stM nw kd wt hg lw (hk &&& ~~~bitI (nI s)) tc tf n f34 f35 st) r1 r2 r3 nr = true
    · simp [s160_0, s160_1, s160_4, s160_7, s160_9, s160_10, s160_11, s160_14, s160_15, s160_16, s160_17, s160_18, s160_20, s160_21, s160_24, s160_27, s160_28, s160_29, s160_30, s160_31, s160_32, s160_33, s160_34, s160_35, s160_38, s160_39, s160_40, s160_43, s160_46, s160_47, s160_48, s160_49, s160_52, s160_53, s160_54, s160_55, s160_58, s160_61, s160_62, s160_63, s160_66, s160_67, tw_gf, tw_sf, tw_fit, m2_27, m2_s27, m2_co, e1, ea, q, tw_bi_0, eb, nI_1]
    · simp [s160_0, s160_1, s160_4, s160_7, s160_9, s160_10, s160_11, s160_14, s160_15, s160_16, s160_17, s160_18, s160_20, s160_21, s160_24, s160_27, s160_28, s160_29, s160_30, s160_31, s160_32, s160_33, s160_34, s160_35, s160_38, s160_39, s160_40, s160_43, s160_46, s160_47, s160_48, s160_49, s160_52, s160_53, s160_54, s160_55, s160_58, s160_61, s160_62, s160_63, s160_66, s160_67, tw_gf, tw_sf, tw_fit, m2_27, m2_s27, m2_co, e1, ea, q, tw_bi_0, eb, nI_1]
theorem m_freed {r1 r2 r3 : Nat → Int32} (H : MZ h fl tc nw hk lw st hg ra rt rw n (nI nr) tr tf kd wt f34 f35) (h8 : nw ≤ 8) (hn : n ≤ 7) (hb : HB nw hk) (hT : Tid tc st) (hR : MR h nr r1 r2 r3) (hL : h.2.2 36 = some (iC 8 f)) (hw : ¬ nI nw = 0) : ∃ f', tw_b 160 0 [.ref 27, tw_un, tw_un, tw_un] [] h = some (some (.int (seS (fun v => ftZ (stM nw kd wt hg lw (hk &&& ~~~bitI (nI v)) tc tf n f34 f35 st) r1 r2 r3 nr) 0 nw 0)), tw_set h 36 (iC 8 f')) := by
  obtain ⟨f', hl⟩ := m_freed_loop H h8 hn hb hT hR nw 0 0 hk f (by omega)
  rw [nI_0, m2_i H.1 hL, m2_j H.1] at hl
  refine ⟨f', ?_⟩
  simp [s160_0, s160_1, s160_4, s160_7, s160_9, s160_10, s160_11, s160_14, s160_15, s160_16, s160_17, s160_18, s160_20, s160_21, s160_24, s160_27, s160_28, s160_29, s160_30, s160_31, s160_32, s160_33, s160_34, s160_35, s160_38, s160_39, s160_40, s160_43, s160_46, s160_47, s160_48, s160_49, s160_52, s160_53, s160_54, s160_55, s160_58, s160_61, s160_62, s160_63, s160_66, s160_67, tw_gf, H.1, hw, hl]
end M7
