/-! laws, hung: the class -/
theorem WkAt.set {h : tw_H} {g : Nat → Option Nat} {T : Nat → Int32} (H : WkAt h g T) {a n : Nat} {f : Nat → Int32} (ha : h.2.2 a = some (iC n f)) (e : tw_C) : WkAt (tw_set h a e) g T := fun k hk => by
  rcases H k hk with z | ⟨w, c, nu, wt, h1, h2, h3, h4, h5⟩
  · exact Or.inl z
  · refine Or.inr ⟨w, c, nu, wt, h1, ?_, h3, h4, h5⟩
    rw [tw_sg, if_neg]
    · exact h2
    · intro z
      rw [z, ha] at h2
      cases h2
def m3 (h : tw_H) (a b f : Nat → Int32) : tw_H := tw_set (tw_set (tw_set h 23 (iC 8 a)) 24 (iC 8 b)) 26 (iC 8 f)
section N3
variable {h : tw_H} {wc hk lw st fl tc : Int32} {tf sw sh sa ft fo rw rh ra a b f T : Nat → Int32} {ns nr : Nat} {g : Nat → Option Nat}
theorem m3_o {i : Nat} (hi : i ≠ 23 ∧ i ≠ 24 ∧ i ≠ 26) : (m3 h a b f).2.2 i = h.2.2 i := by
  simp [m3, tw_sg, hi.1, hi.2.1, hi.2.2]
theorem m3_23 : (m3 h a b f).2.2 23 = some (iC 8 a) := by simp [m3, tw_sg]
theorem m3_24 : (m3 h a b f).2.2 24 = some (iC 8 b) := by simp [m3, tw_sg]
theorem m3_26 : (m3 h a b f).2.2 26 = some (iC 8 f) := by simp [m3, tw_sg]
theorem m3_s {a' b' : Nat → Int32} : tw_set (tw_set (m3 h a b f) 23 (iC 8 a')) 24 (iC 8 b') = m3 h a' b' f := by
  unfold m3
  rw [tw_sc _ _ _ (show (26 : Nat) ≠ 23 by decide), tw_sc _ _ _ (show (24 : Nat) ≠ 23 by decide), tw_ss, tw_sc _ _ _ (show (26 : Nat) ≠ 24 by decide), tw_ss]
theorem m3_s26 {f' : Nat → Int32} : tw_set (m3 h a b f) 26 (iC 8 f') = m3 h a b f' := by
  unfold m3
  rw [tw_ss]
theorem m3_i (h1 : h.2.2 23 = some (iC 8 a)) (h2 : h.2.2 24 = some (iC 8 b)) (h3 : h.2.2 26 = some (iC 8 f)) : m3 h a b f = h := by
  unfold m3
  rw [tw_si h h1, tw_si h h2, tw_si h h3]
theorem m3_XS (H : XS h tc tf ns sw sh sa) : XS (m3 h a b f) tc tf ns sw sh sa := ((H.set (by omega)).set (by omega)).set (by omega)
theorem m3_XR (H : XR h nr rw rh ra) : XR (m3 h a b f) nr rw rh ra := ((H.set (by omega)).set (by omega)).set (by omega)
/-- one fit with a stopping order of its own -/
theorem x_one {f0 : Nat → Int32} (hX : h.2.2 1 = some (xC wc hk lw st fl)) (hS : XS h tc tf ns sw sh sa) (h22 : h.2.2 22 = some (oC 6 [.ref 23, .ref 24])) (h23 : h.2.2 23 = some (iC 8 ft)) (h24 : h.2.2 24 = some (iC 8 fo)) (hR : XR h nr rw rh ra) (h25 : h.2.2 25 = some (oC 1 [.ref 26])) (h26 : h.2.2 26 = some (iC 8 f0)) (hW : h.2.2 18 = some (rC 2 8 g)) (hg : WkAt h g T) (law hung : Int32) (a b f : Nat → Int32) : ∃ a' b' f', tw_b 30 0 [.ref 22, .ref 18, .int law, .int hung, tw_un, tw_un] [] (m3 h a b f) = some (none, m3 h a' b' f) ∧ tw_b 80 0 [.ref 1, .ref 22, .int st, .int hk, tw_un] [] (m3 h a' b' f) = some (some (.int (tw_bi (ftZ (fun hour => spF (aT T hung) (odZ (aT T hung) law) hk (strF tc tf ns sh sa st hour 0)) rw rh ra nr))), m3 h a' b' f') := by
  have gW : WkAt (m3 h a b f) g T := by
    have k1 := hg.set h23 (iC 8 a)
    have k2 := k1.set (a := 24) (n := 8) (f := fo) (by rw [tw_sg, if_neg (by decide)]; exact h24) (iC 8 b)
    exact k2.set (a := 26) (n := 8) (f := f0) (by rw [tw_sg, if_neg (by decide), tw_sg, if_neg (by decide)]; exact h26) (iC 8 f)
  have ea := x_arrange (h := m3 h a b f) (o := 22) (tk := 23) (od := 24) (wa := 18) (g := g) (T := T) (by rw [m3_o (by decide)]; exact h22) (by decide) (by decide) (by decide) m3_23 m3_24 (by rw [m3_o (by decide)]; exact hW) (by decide) gW (by decide) (by decide) (by decide) (by decide) law hung
  rw [m3_s] at ea
  have k1 : (m3 h (fset a (aT T hung) 8) (orF (fset a (aT T hung) 8) law b) f).2.2 1 = some (xC wc hk lw st fl) := by rw [m3_o (by decide)]; exact hX
  have k2 : XS (m3 h (fset a (aT T hung) 8) (orF (fset a (aT T hung) 8) law b) f) tc tf ns sw sh sa := m3_XS hS
  have k3 : XK (m3 h (fset a (aT T hung) 8) (orF (fset a (aT T hung) 8) law b) f) 22 23 24 (fset a (aT T hung) 8) (orF (fset a (aT T hung) 8) law b) := ⟨by rw [m3_o (by decide)]; exact h22, m3_23, m3_24⟩
  have k4 : XR (m3 h (fset a (aT T hung) 8) (orF (fset a (aT T hung) 8) law b) f) nr rw rh ra := m3_XR hR
  have k5 : XL (m3 h (fset a (aT T hung) 8) (orF (fset a (aT T hung) 8) law b) f) f := ⟨by rw [m3_o (by decide)]; exact h25, m3_26⟩
  obtain ⟨f', ef⟩ := x_fitsZ k1 k2 (by decide) (by decide) k3 k4 k5 st hk
  rw [m3_s26] at ef
  have e0 : ∀ str, spF (fset a (aT T hung) 8) (orF (fset a (aT T hung) 8) law b) hk str = spF (aT T hung) (odZ (aT T hung) law) hk str := fun str => spF_congr (fun j hj => fset_lt hj) (orF_odZ (fun j hj => fset_lt hj) law b) hk str
  simp only [e0] at ef
  exact ⟨_, _, f', ea, ef⟩
theorem x_laws_loop (hX : h.2.2 1 = some (xC wc hk lw st fl)) (hS : XS h tc tf ns sw sh sa) (h22 : h.2.2 22 = some (oC 6 [.ref 23, .ref 24])) (h23 : h.2.2 23 = some (iC 8 ft)) (h24 : h.2.2 24 = some (iC 8 fo)) (hR : XR h nr rw rh ra) (h25 : h.2.2 25 = some (oC 1 [.ref 26])) {f0 : Nat → Int32} (h26 : h.2.2 26 = some (iC 8 f0)) (hW : h.2.2 18 = some (rC 2 8 g)) (hg : WkAt h g T) : ∀ (d s : Nat) (acc : Int32) (a b f : Nat → Int32), s + d = 3 → ∃ a' b' f', tw_b 83 14 [.ref 1, .int acc, .int (nI s)] [] (m3 h a b f) = some (some (.int (seS (fun v => ftZ (fun hour => spF (aT T (-1)) (odZ (aT T (-1)) (nI v)) hk (strF tc tf ns sh sa st hour 0)) rw rh ra nr) s d acc)), m3 h a' b' f') := by
  intro d
  induction d with
  | zero =>
    intro s acc a b f hd
    have e1 : ¬ nI s < 3 := nI_nlt (b := 3) (by omega) (by omega)
    refine ⟨a, b, f, ?_⟩
    rw [s83_14]
    simp [s83_0, s83_1, s83_4, s83_7, s83_9, s83_10, s83_11, s83_12, s83_13, s83_15, s83_16, s83_19, s83_20, s83_23, s83_24, s83_27, s83_28, s83_29, s83_32, s83_33, s83_34, s83_35, s83_38, s83_39, s83_42, s83_43, s83_46, s83_49, s83_52, s83_53, s83_56, s83_59, s83_60, s83_61, s83_62, s83_65, s83_68, s83_69, e1, seS]
  | succ d ih =>
    intro s acc a b f hd
    have e1 : nI s < 3 := nI_lt (b := 3) (by omega) (by omega)
    obtain ⟨a1, b1, f1, ea, ef⟩ := x_one hX hS h22 h23 h24 hR h25 h26 hW hg (nI s) (-1) a b f
    have gX : (m3 h a b f).2.2 1 = some (xC wc hk lw st fl) := by rw [m3_o (by decide)]; exact hX
    have gX1 : (m3 h a1 b1 f).2.2 1 = some (xC wc hk lw st fl) := by rw [m3_o (by decide)]; exact hX
    have g22 : tw_co (m3 h a b f) 22 = some 6 := by simp [tw_co, m3_o, h22]
    obtain ⟨a', b', f', ih'⟩ := ih (s + 1) (acc ||| if ftZ (fun hour => spF (aT T (-1)) (odZ (aT T (-1)) (nI s)) hk (strF tc tf ns sh sa st hour 0)) rw rh ra nr = true then bitI (nI s) else 0) a1 b1 f1 (by omega)
    refine ⟨a', b', f', ?_⟩
    simp only [seS]
    rw [← ih', s83_14]
    by_cases q : ftZ (fun hour => spF (aT T (-1)) (odZ (aT T (-1)) (nI s)) hk (strF tc tf ns sh sa st hour 0)) rw rh ra nr = true
    · simp [s83_0, s83_1, s83_4, s83_7, s83_9, s83_10, s83_11, s83_12, s83_13, s83_15, s83_16, s83_19, s83_20, s83_23, s83_24, s83_27, s83_28, s83_29, s83_32, s83_33, s83_34, s83_35, s83_38, s83_39, s83_42, s83_43, s83_46, s83_49, s83_52, s83_53, s83_56, s83_59, s83_60, s83_61, s83_62, s83_65, s83_68, s83_69, tw_gf, gX, gX1, xco gX, xco gX1, g22, e1, ea, ef, q, tw_bi_0, x_bit, nI_1]
    · simp [s83_0, s83_1, s83_4, s83_7, s83_9, s83_10, s83_11, s83_12, s83_13, s83_15, s83_16, s83_19, s83_20, s83_23, s83_24, s83_27, s83_28, s83_29, s83_32, s83_33, s83_34, s83_35, s83_38, s83_39, s83_42, s83_43, s83_46, s83_49, s83_52, s83_53, s83_56, s83_59, s83_60, s83_61, s83_62, s83_65, s83_68, s83_69, tw_gf, gX, gX1, xco gX, xco gX1, g22, e1, ea, ef, q, tw_bi_0, x_bit, nI_1]
theorem x_laws (hX : h.2.2 1 = some (xC wc hk lw st fl)) (hS : XS h tc tf ns sw sh sa) (h22 : h.2.2 22 = some (oC 6 [.ref 23, .ref 24])) (h23 : h.2.2 23 = some (iC 8 ft)) (h24 : h.2.2 24 = some (iC 8 fo)) (hR : XR h nr rw rh ra) (h25 : h.2.2 25 = some (oC 1 [.ref 26])) (h26 : h.2.2 26 = some (iC 8 f)) (hW : h.2.2 18 = some (rC 2 8 g)) (hg : WkAt h g T) (hw : ¬ wc = 0) : ∃ a' b' f', tw_b 83 0 [.ref 1, tw_un, tw_un] [] h = some (some (.int (seS (fun v => ftZ (fun hour => spF (aT T (-1)) (odZ (aT T (-1)) (nI v)) hk (strF tc tf ns sh sa st hour 0)) rw rh ra nr) 0 3 0)), m3 h a' b' f') := by
  obtain ⟨a', b', f', hl⟩ := x_laws_loop hX hS h22 h23 h24 hR h25 h26 hW hg 3 0 0 ft fo f (by omega)
  rw [nI_0, m3_i h23 h24 h26] at hl
  refine ⟨a', b', f', ?_⟩
  simp [s83_0, s83_1, s83_4, s83_7, s83_9, s83_10, s83_11, s83_12, s83_13, s83_15, s83_16, s83_19, s83_20, s83_23, s83_24, s83_27, s83_28, s83_29, s83_32, s83_33, s83_34, s83_35, s83_38, s83_39, s83_42, s83_43, s83_46, s83_49, s83_52, s83_53, s83_56, s83_59, s83_60, s83_61, s83_62, s83_65, s83_68, s83_69, xco hX, x_hasNoTown hX, hw, tw_bi_0, hl]
theorem x_hung_loop {nw : Nat} (hnw : nw ≤ 8) (hX : h.2.2 1 = some (xC (nI nw) hk lw st fl)) (hS : XS h tc tf ns sw sh sa) (h22 : h.2.2 22 = some (oC 6 [.ref 23, .ref 24])) (h23 : h.2.2 23 = some (iC 8 ft)) (h24 : h.2.2 24 = some (iC 8 fo)) (hR : XR h nr rw rh ra) (h25 : h.2.2 25 = some (oC 1 [.ref 26])) {f0 : Nat → Int32} (h26 : h.2.2 26 = some (iC 8 f0)) (hW : h.2.2 18 = some (rC 2 8 g)) (hg : WkAt h g T) : ∀ (d s : Nat) (acc : Int32) (a b f : Nat → Int32), s + d = nw → ∃ a' b' f', tw_b 84 14 [.ref 1, .int acc, .int (nI s)] [] (m3 h a b f) = some (some (.int (seS (fun v => ftZ (fun hour => spF (aT T (nI v)) (odZ (aT T (nI v)) lw) hk (strF tc tf ns sh sa st hour 0)) rw rh ra nr) s d acc)), m3 h a' b' f') := by
  intro d
  induction d with
  | zero =>
    intro s acc a b f hd
    have e1 : ¬ nI s < nI nw := nI_nlt (by omega) (by omega)
    have gX : (m3 h a b f).2.2 1 = some (xC (nI nw) hk lw st fl) := by rw [m3_o (by decide)]; exact hX
    refine ⟨a, b, f, ?_⟩
    rw [s84_14]
    simp [s84_0, s84_1, s84_4, s84_7, s84_9, s84_10, s84_11, s84_12, s84_13, s84_15, s84_16, s84_19, s84_22, s84_23, s84_26, s84_27, s84_30, s84_31, s84_34, s84_35, s84_38, s84_39, s84_40, s84_41, s84_44, s84_45, s84_48, s84_49, s84_52, s84_55, s84_58, s84_59, s84_62, s84_65, s84_66, s84_67, s84_68, s84_71, s84_74, s84_75, tw_gf, gX, e1, seS]
  | succ d ih =>
    intro s acc a b f hd
    have e1 : nI s < nI nw := nI_lt (by omega) (by omega)
    obtain ⟨a1, b1, f1, ea, ef⟩ := x_one hX hS h22 h23 h24 hR h25 h26 hW hg lw (nI s) a b f
    have gX : (m3 h a b f).2.2 1 = some (xC (nI nw) hk lw st fl) := by rw [m3_o (by decide)]; exact hX
    have gX1 : (m3 h a1 b1 f).2.2 1 = some (xC (nI nw) hk lw st fl) := by rw [m3_o (by decide)]; exact hX
    have g22 : tw_co (m3 h a b f) 22 = some 6 := by simp [tw_co, m3_o, h22]
    obtain ⟨a', b', f', ih'⟩ := ih (s + 1) (acc ||| if ftZ (fun hour => spF (aT T (nI s)) (odZ (aT T (nI s)) lw) hk (strF tc tf ns sh sa st hour 0)) rw rh ra nr = true then bitI (nI s) else 0) a1 b1 f1 (by omega)
    refine ⟨a', b', f', ?_⟩
    simp only [seS]
    rw [← ih', s84_14]
    by_cases q : ftZ (fun hour => spF (aT T (nI s)) (odZ (aT T (nI s)) lw) hk (strF tc tf ns sh sa st hour 0)) rw rh ra nr = true
    · simp [s84_0, s84_1, s84_4, s84_7, s84_9, s84_10, s84_11, s84_12, s84_13, s84_15, s84_16, s84_19, s84_22, s84_23, s84_26, s84_27, s84_30, s84_31, s84_34, s84_35, s84_38, s84_39, s84_40, s84_41, s84_44, s84_45, s84_48, s84_49, s84_52, s84_55, s84_58, s84_59, s84_62, s84_65, s84_66, s84_67, s84_68, s84_71, s84_74, s84_75, tw_gf, gX, gX1, xco gX, xco gX1, g22, e1, ea, ef, q, tw_bi_0, x_bit, nI_1]
    · simp [s84_0, s84_1, s84_4, s84_7, s84_9, s84_10, s84_11, s84_12, s84_13, s84_15, s84_16, s84_19, s84_22, s84_23, s84_26, s84_27, s84_30, s84_31, s84_34, s84_35, s84_38, s84_39, s84_40, s84_41, s84_44, s84_45, s84_48, s84_49, s84_52, s84_55, s84_58, s84_59, s84_62, s84_65, s84_66, s84_67, s84_68, s84_71, s84_74, s84_75, tw_gf, gX, gX1, xco gX, xco gX1, g22, e1, ea, ef, q, tw_bi_0, x_bit, nI_1]
theorem x_hung {nw : Nat} (hnw : nw ≤ 8) (hX : h.2.2 1 = some (xC (nI nw) hk lw st fl)) (hS : XS h tc tf ns sw sh sa) (h22 : h.2.2 22 = some (oC 6 [.ref 23, .ref 24])) (h23 : h.2.2 23 = some (iC 8 ft)) (h24 : h.2.2 24 = some (iC 8 fo)) (hR : XR h nr rw rh ra) (h25 : h.2.2 25 = some (oC 1 [.ref 26])) (h26 : h.2.2 26 = some (iC 8 f)) (hW : h.2.2 18 = some (rC 2 8 g)) (hg : WkAt h g T) (hw : ¬ nI nw = 0) : ∃ a' b' f', tw_b 84 0 [.ref 1, tw_un, tw_un] [] h = some (some (.int (seS (fun v => ftZ (fun hour => spF (aT T (nI v)) (odZ (aT T (nI v)) lw) hk (strF tc tf ns sh sa st hour 0)) rw rh ra nr) 0 nw 0)), m3 h a' b' f') := by
  obtain ⟨a', b', f', hl⟩ := x_hung_loop hnw hX hS h22 h23 h24 hR h25 h26 hW hg nw 0 0 ft fo f (by omega)
  rw [nI_0, m3_i h23 h24 h26] at hl
  refine ⟨a', b', f', ?_⟩
  simp [s84_0, s84_1, s84_4, s84_7, s84_9, s84_10, s84_11, s84_12, s84_13, s84_15, s84_16, s84_19, s84_22, s84_23, s84_26, s84_27, s84_30, s84_31, s84_34, s84_35, s84_38, s84_39, s84_40, s84_41, s84_44, s84_45, s84_48, s84_49, s84_52, s84_55, s84_58, s84_59, s84_62, s84_65, s84_66, s84_67, s84_68, s84_71, s84_74, s84_75, xco hX, x_hasNoTown hX, hw, tw_bi_0, hl]
end N3
