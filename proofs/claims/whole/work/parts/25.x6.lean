/-! alike, together, weakest, fits -/
section XQ2
variable {h : tw_H} {wc hk lw st fl tc : Int32} {tf sw sh sa ft fo f rw rh ra : Nat → Int32} {ns nr : Nat}
def bcF (x0 : Int32) : Int32 :=
  let u := fun (x k : Int32) => (x.toUInt32 >>> (k.toUInt32 &&& Int32.toUInt32 31)).toInt32
  let x1 := x0 - (u x0 1 &&& 1431655765)
  let x2 := (x1 &&& 858993459) + (u x1 2 &&& 858993459)
  let x3 := (x2 + u x2 4) &&& 252645135
  let x4 := x3 + u x3 8
  let x5 := x4 + u x4 16
  x5 &&& 63
theorem x_bitCount (x : Int32) (h : tw_H) : tw_b 69 0 [.int x] [] h = some (some (.int (bcF x)), h) := by
  simp only [s69_0, s69_1, s69_2, s69_3, s69_4, s69_7, s69_8, s69_9, s69_10, s69_11, s69_14, s69_15, s69_16, s69_17, s69_18, s69_21, s69_22, s69_23, s69_24, s69_25, s69_26, s69_27, s69_28, s69_29, s69_32, s69_33, s69_34, s69_35, s69_36, s69_38, s69_39, s69_40, s69_41, s69_42, s69_43, s69_45, s69_46, s69_47, s69_48, s69_49, s69_51, s69_52, bcF]
/-- the hours of ALIKE: from hour s on, with what is late so far -/
def akS (stp : Int32 → Int32) (hk hour : Int32) : Nat → Nat → (Nat → Int32) → Int32
  | _, 0, _ => -9
  | s, d + 1, f => let g := fset f (addG (stp (nI s)) f) 8
    if ¬ nI s < hour ∧ alS g hk 0 8 (-1) = true then nI s else akS stp hk hour (s + 1) d g
theorem x_alike_hours (hX : h.2.2 1 = some (xC wc hk lw st fl)) (hS : XS h tc tf ns sw sh sa) (hK : XK h 19 20 21 ft fo) (hour : Int32) (f0 : Nat → Int32) (hL : XL h f0) : ∀ (d s : Nat) (f : Nat → Int32), s + d = 60 → ∃ f', tw_b 63 29 [.ref 1, .int hour, .int (nI s)] [] (tw_set h 26 (iC 8 f)) = some (some (.int (akS (fun hour => spF ft fo hk (strF tc tf ns sh sa st hour 0)) hk hour s d f)), tw_set h 26 (iC 8 f')) := by
  intro d
  induction d with
  | zero =>
    intro s f hd
    have e1 : ¬ nI s < 60 := nI_nlt (b := 60) (by omega) (by omega)
    refine ⟨f, ?_⟩
    rw [s63_29]
    simp [s63_0, s63_1, s63_4, s63_7, s63_9, s63_10, s63_11, s63_14, s63_17, s63_19, s63_20, s63_21, s63_24, s63_27, s63_28, s63_30, s63_32, s63_35, s63_36, s63_39, s63_40, s63_41, s63_44, s63_45, s63_48, s63_51, s63_52, s63_53, s63_56, s63_57, s63_60, s63_61, s63_64, s63_67, s63_70, s63_71, s63_72, s63_75, s63_78, s63_80, e1, akS]
  | succ d ih =>
    intro s f hd
    have e1 : nI s < 60 := nI_lt (b := 60) (by omega) (by omega)
    obtain ⟨H, hH⟩ : ∃ H, H = tw_set h 26 (iC 8 f) := ⟨_, rfl⟩
    have gX : H.2.2 1 = some (xC wc hk lw st fl) := by rw [hH, tw_sg, if_neg (by decide)]; exact hX
    have gS : XS H tc tf ns sw sh sa := by rw [hH]; exact hS.set (by decide)
    have gK : XK H 19 20 21 ft fo := by rw [hH]; exact hK.set (by decide)
    have gL : XL H f := by rw [hH]; exact hL.put
    obtain ⟨g, hg⟩ : ∃ g, g = fset f (addG (spF ft fo hk (strF tc tf ns sh sa st (nI s) 0)) f) 8 := ⟨_, rfl⟩
    have ea := x_ladd gL.1 (by decide) gL.2 (by decide) (by decide) (spF ft fo hk (strF tc tf ns sh sa st (nI s) 0))
    rw [← hg] at ea
    obtain ⟨H2, hH2⟩ : ∃ H2, H2 = tw_set H 26 (iC 8 g) := ⟨_, rfl⟩
    rw [← hH2] at ea
    have gX2 : H2.2.2 1 = some (xC wc hk lw st fl) := by rw [hH2, tw_sg, if_neg (by decide)]; exact gX
    have gL2 : XL H2 g := by rw [hH2]; exact gL.put
    have ei := x_isAlike gL2.1 (by decide) gL2.2 hk
    have eH2 : H2 = tw_set h 26 (iC 8 g) := by rw [hH2, hH, tw_ss]
    obtain ⟨f', ih'⟩ := ih (s + 1) g (by omega)
    rw [← eH2] at ih'
    rw [← hH, s63_29]
    by_cases q : nI s < hour
    · refine ⟨f', ?_⟩
      simp [s63_0, s63_1, s63_4, s63_7, s63_9, s63_10, s63_11, s63_14, s63_17, s63_19, s63_20, s63_21, s63_24, s63_27, s63_28, s63_30, s63_32, s63_35, s63_36, s63_39, s63_40, s63_41, s63_44, s63_45, s63_48, s63_51, s63_52, s63_53, s63_56, s63_57, s63_60, s63_61, s63_64, s63_67, s63_70, s63_71, s63_72, s63_75, s63_78, s63_80, tw_gf, gX, gX2, xco gX, gL.co, gL2.co, x_stopped gX gS gK, ea, e1, q, nI_1, ih', akS, hg]
    · by_cases q2 : alS g hk 0 8 (-1) = true
      · refine ⟨g, ?_⟩
        rw [← eH2]
        have q2' := q2
        rw [hg] at q2'
        simp [s63_0, s63_1, s63_4, s63_7, s63_9, s63_10, s63_11, s63_14, s63_17, s63_19, s63_20, s63_21, s63_24, s63_27, s63_28, s63_30, s63_32, s63_35, s63_36, s63_39, s63_40, s63_41, s63_44, s63_45, s63_48, s63_51, s63_52, s63_53, s63_56, s63_57, s63_60, s63_61, s63_64, s63_67, s63_70, s63_71, s63_72, s63_75, s63_78, s63_80, tw_gf, gX, gX2, xco gX, gL.co, gL2.co, x_stopped gX gS gK, ea, e1, q, ei, q2, q2', tw_bi_0, akS]
      · refine ⟨f', ?_⟩
        have q2' := q2
        rw [hg] at q2'
        simp [s63_0, s63_1, s63_4, s63_7, s63_9, s63_10, s63_11, s63_14, s63_17, s63_19, s63_20, s63_21, s63_24, s63_27, s63_28, s63_30, s63_32, s63_35, s63_36, s63_39, s63_40, s63_41, s63_44, s63_45, s63_48, s63_51, s63_52, s63_53, s63_56, s63_57, s63_60, s63_61, s63_64, s63_67, s63_70, s63_71, s63_72, s63_75, s63_78, s63_80, tw_gf, gX, gX2, xco gX, gL.co, gL2.co, x_stopped gX gS gK, ea, e1, q, ei, q2, q2', tw_bi_0, nI_1, ih', akS, ← hg]
theorem x_alike (hX : h.2.2 1 = some (xC wc hk lw st fl)) (hS : XS h tc tf ns sw sh sa) (hK : XK h 19 20 21 ft fo) (hL : XL h f) {hour : Int32} (hh : ¬ hour < 0 ∧ hour < 60) (hw : ¬ wc = 0) : ∃ f', tw_b 63 0 [.ref 1, .int hour, tw_un] [] h = some (some (.int (akS (fun hour => spF ft fo hk (strF tc tf ns sh sa st hour 0)) hk hour 0 60 (fset f (fun _ => 0) 8))), tw_set h 26 (iC 8 f')) := by
  obtain ⟨f', hl⟩ := x_alike_hours hX hS hK hour f hL 60 0 (fset f (fun _ => 0) 8) (by omega)
  rw [nI_0] at hl
  refine ⟨f', ?_⟩
  simp [s63_0, s63_1, s63_4, s63_7, s63_9, s63_10, s63_11, s63_14, s63_17, s63_19, s63_20, s63_21, s63_24, s63_27, s63_28, s63_30, s63_32, s63_35, s63_36, s63_39, s63_40, s63_41, s63_44, s63_45, s63_48, s63_51, s63_52, s63_53, s63_56, s63_57, s63_60, s63_61, s63_64, s63_67, s63_70, s63_71, s63_72, s63_75, s63_78, s63_80, x_isHour, tw_bi_0, hh, xco hX, x_hasNoTown hX, hw, tw_gf, hX, hL.co, x_forget hL.1 (by decide) hL.2 (by decide) (by decide), hl]
theorem x_alike_no (hX : h.2.2 1 = some (xC wc hk lw st fl)) (hour : Int32) (hb : ¬ (¬ hour < 0 ∧ hour < 60) ∨ wc = 0) : tw_b 63 0 [.ref 1, .int hour, tw_un] [] h = some (some (.int (if ¬ hour < 0 ∧ hour < 60 then -3 else -2)), h) := by
  by_cases q : ¬ hour < 0 ∧ hour < 60
  · have q2 : wc = 0 := by rcases hb with z | z; exact absurd q z; exact z
    simp [s63_0, s63_1, s63_4, s63_7, s63_9, s63_10, s63_11, s63_14, s63_17, s63_19, s63_20, s63_21, s63_24, s63_27, s63_28, s63_30, s63_32, s63_35, s63_36, s63_39, s63_40, s63_41, s63_44, s63_45, s63_48, s63_51, s63_52, s63_53, s63_56, s63_57, s63_60, s63_61, s63_64, s63_67, s63_70, s63_71, s63_72, s63_75, s63_78, s63_80, x_isHour, tw_bi_0, q, xco hX, x_hasNoTown hX, q2]
  · simp only [s63_0, s63_1, s63_4, s63_7, s63_9, s63_10, s63_11, s63_14, s63_17, s63_19, s63_20, s63_21, s63_24, s63_27, s63_28, s63_30, s63_32, s63_35, s63_36, s63_39, s63_40, s63_41, s63_44, s63_45, s63_48, s63_51, s63_52, s63_53, s63_56, s63_57, s63_60, s63_61, s63_64, s63_67, s63_70, s63_71, s63_72, s63_75, s63_78, s63_80, x_isHour, Option.bind_some, Option.bind_none, Option.toList_some, Option.toList_none, List.cons_append, List.nil_append, tw_bi_0, decide_eq_false q, if_true, if_neg q]
def lgS (stp : Int32 → Int32) : Nat → Nat → Int32 → Int32
  | _, 0, acc => acc
  | s, d + 1, acc => lgS stp (s + 1) d (acc + bcF (stp (nI s)))
theorem x_together_loop (hX : h.2.2 1 = some (xC wc hk lw st fl)) (hS : XS h tc tf ns sw sh sa) (hK : XK h 19 20 21 ft fo) : ∀ (d s : Nat) (acc : Int32), s + d = 60 → tw_b 71 4 [.ref 1, .int acc, .int (nI s)] [] h = some (some (.int (lgS (fun hour => spF ft fo hk (strF tc tf ns sh sa st hour 0)) s d acc)), h) := by
  intro d
  induction d with
  | zero =>
    intro s acc hd
    have e1 : ¬ nI s < 60 := nI_nlt (b := 60) (by omega) (by omega)
    rw [s71_4]
    simp [s71_0, s71_1, s71_2, s71_3, s71_5, s71_7, s71_10, s71_11, s71_12, s71_13, s71_16, s71_17, s71_20, s71_23, s71_24, s71_25, s71_28, s71_31, s71_32, e1, lgS]
  | succ d ih =>
    intro s acc hd
    have e1 : nI s < 60 := nI_lt (b := 60) (by omega) (by omega)
    rw [s71_4]
    simp [s71_0, s71_1, s71_2, s71_3, s71_5, s71_7, s71_10, s71_11, s71_12, s71_13, s71_16, s71_17, s71_20, s71_23, s71_24, s71_25, s71_28, s71_31, s71_32, tw_gf, hX, xco hX, x_stopped hX hS hK, x_bitCount, e1, nI_1, ih (s + 1) _ (show s + 1 + d = 60 by omega), lgS]
theorem x_together (hX : h.2.2 1 = some (xC wc hk lw st fl)) (hS : XS h tc tf ns sw sh sa) (hK : XK h 19 20 21 ft fo) : tw_b 71 0 [.ref 1, tw_un, tw_un] [] h = some (some (.int (lgS (fun hour => spF ft fo hk (strF tc tf ns sh sa st hour 0)) 0 60 0)), h) := by
  have hl := x_together_loop hX hS hK 60 0 0 (by omega)
  rw [nI_0] at hl
  simp [s71_0, s71_1, s71_2, s71_3, s71_5, s71_7, s71_10, s71_11, s71_12, s71_13, s71_16, s71_17, s71_20, s71_23, s71_24, s71_25, s71_28, s71_31, s71_32, hl]
def wkS (str : Int32 → Int32) : Nat → Nat → Int32 → Int32
  | _, 0, acc => acc
  | s, d + 1, acc => wkS str (s + 1) d (if str (nI s) < acc then str (nI s) else acc)
theorem x_weakest_loop (hX : h.2.2 1 = some (xC wc hk lw st fl)) (hS : XS h tc tf ns sw sh sa) (from_ : Int32) {e : Nat} (he : e < 60) : ∀ (d s : Nat) (acc : Int32), s + d = e + 1 → tw_b 68 19 [.ref 1, .int from_, .int (nI e), .int acc, .int (nI s)] [] h = some (some (.int (wkS (fun hour => strF tc tf ns sh sa st hour 0) s d acc)), h) := by
  intro d
  induction d with
  | zero =>
    intro s acc hd
    have e1 : nI e < nI s := nI_lt (by omega) (by omega)
    rw [s68_19]
    simp [s68_0, s68_1, s68_4, s68_5, s68_8, s68_9, s68_10, s68_13, s68_14, s68_15, s68_16, s68_17, s68_21, s68_22, s68_25, s68_26, s68_27, s68_30, s68_31, s68_34, s68_36, s68_37, s68_40, s68_43, s68_44, s68_47, s68_50, s68_51, e1, wkS]
  | succ d ih =>
    intro s acc hd
    have e1 : ¬ nI e < nI s := nI_nlt (by omega) (by omega)
    rw [s68_19]
    simp [s68_0, s68_1, s68_4, s68_5, s68_8, s68_9, s68_10, s68_13, s68_14, s68_15, s68_16, s68_17, s68_21, s68_22, s68_25, s68_26, s68_27, s68_30, s68_31, s68_34, s68_36, s68_37, s68_40, s68_43, s68_44, s68_47, s68_50, s68_51, tw_gf, hX, hS.co, x_strX hS, e1, nI_1, ih (s + 1) _ (show s + 1 + d = e + 1 by omega), wkS]
def wkF (str : Int32 → Int32) (a e : Nat) : Int32 := wkS str (a + 1) (e - a) (str (nI a))
theorem x_weakest (hX : h.2.2 1 = some (xC wc hk lw st fl)) (hS : XS h tc tf ns sw sh sa) {a e : Nat} (ha : a ≤ e) (he : e < 60) : tw_b 68 0 [.ref 1, .int (nI a), .int (nI e), tw_un, tw_un] [] h = some (some (.int (wkF (fun hour => strF tc tf ns sh sa st hour 0) a e)), h) := by
  have hl := x_weakest_loop hX hS (nI a) he (e - a) (a + 1) (strF tc tf ns sh sa st (nI a) 0) (by omega)
  simp [s68_0, s68_1, s68_4, s68_5, s68_8, s68_9, s68_10, s68_13, s68_14, s68_15, s68_16, s68_17, s68_21, s68_22, s68_25, s68_26, s68_27, s68_30, s68_31, s68_34, s68_36, s68_37, s68_40, s68_43, s68_44, s68_47, s68_50, s68_51, tw_gf, hX, hS.co, x_strX hS, nI_1, hl, wkF]
/-- whether all readings are so, if stp tells what stops -/
def ftS (stp : Int32 → Int32) (rw rh ra : Nat → Int32) (nr : Nat) : Nat → Nat → (Nat → Int32) → Bool
  | _, 0, _ => true
  | s, d + 1, f => let g := fset f (addG (stp (nI s)) f) 8
    if rdS g rw rh ra (nI s) 0 nr = true then ftS stp rw rh ra nr (s + 1) d g else false
theorem x_fits_loop (hX : h.2.2 1 = some (xC wc hk lw st fl)) (hS : XS h tc tf ns sw sh sa) {o tk od : Nat} (h0 : o ≠ 0) (ho : o ≠ 26 ∧ tk ≠ 26 ∧ od ≠ 26) (hK : XK h o tk od ft fo) (hR : XR h nr rw rh ra) (first set : Int32) (f0 : Nat → Int32) (hL : XL h f0) : ∀ (d s : Nat) (f : Nat → Int32), s + d = 60 → ∃ f', tw_b 80 10 [.ref 1, .ref o, .int first, .int set, .int (nI s)] [] (tw_set h 26 (iC 8 f)) = some (some (.int (tw_bi (ftS (fun hour => spF ft fo set (strF tc tf ns sh sa first hour 0)) rw rh ra nr s d f))), tw_set h 26 (iC 8 f')) := by
  intro d
  induction d with
  | zero =>
    intro s f hd
    have e1 : ¬ nI s < 60 := nI_nlt (b := 60) (by omega) (by omega)
    refine ⟨f, ?_⟩
    rw [s80_10]
    simp [s80_0, s80_1, s80_4, s80_7, s80_8, s80_12, s80_14, s80_17, s80_18, s80_21, s80_22, s80_22n, s80_23, s80_24, s80_25, s80_28, s80_29, s80_31, s80_32, s80_32_n, s80_35, s80_38, s80_39, s80_40, s80_41, s80_44, s80_45, s80_48, s80_49, s80_52, s80_54, s80_57, s80_60, s80_61, s80_62, s80_65, s80_68, s80_69, e1, ftS, tw_z_1, tw_bi]
  | succ d ih =>
    intro s f hd
    have e1 : nI s < 60 := nI_lt (b := 60) (by omega) (by omega)
    obtain ⟨H, hH⟩ : ∃ H, H = tw_set h 26 (iC 8 f) := ⟨_, rfl⟩
    have gX : H.2.2 1 = some (xC wc hk lw st fl) := by rw [hH, tw_sg, if_neg (by decide)]; exact hX
    have gS : XS H tc tf ns sw sh sa := by rw [hH]; exact hS.set (by decide)
    have gK : XK H o tk od ft fo := by rw [hH]; exact hK.set ho
    have gL : XL H f := by rw [hH]; exact hL.put
    obtain ⟨g, hg⟩ : ∃ g, g = fset f (addG (set &&& ~~~goF ft fo set (strF tc tf ns sh sa first (nI s) 0)) f) 8 := ⟨_, rfl⟩
    have ea := x_ladd gL.1 (by decide) gL.2 (by decide) (by decide) (set &&& ~~~goF ft fo set (strF tc tf ns sh sa first (nI s) 0))
    rw [← hg] at ea
    obtain ⟨H2, hH2⟩ : ∃ H2, H2 = tw_set H 26 (iC 8 g) := ⟨_, rfl⟩
    rw [← hH2] at ea
    have gX2 : H2.2.2 1 = some (xC wc hk lw st fl) := by rw [hH2, tw_sg, if_neg (by decide)]; exact gX
    have gL2 : XL H2 g := by rw [hH2]; exact gL.put
    have eH2 : H2 = tw_set h 26 (iC 8 g) := by rw [hH2, hH, tw_ss]
    have gR2 : XR H2 nr rw rh ra := by rw [eH2]; exact hR.set (by decide)
    have ei := x_isAsRead gL2.1 (by decide) gL2.2 gR2.1 (by decide) gR2.2.1 gR2.2.2.1 gR2.2.2.2.1 gR2.2.2.2.2 (by decide) (nI s)
    obtain ⟨f', ih'⟩ := ih (s + 1) g (by omega)
    rw [← eH2] at ih'
    rw [← hH, s80_10]
    by_cases q : rdS g rw rh ra (nI s) 0 nr = true
    · refine ⟨f', ?_⟩
      have q' := q
      rw [hg] at q'
      simp [s80_0, s80_1, s80_4, s80_7, s80_8, s80_12, s80_14, s80_17, s80_18, s80_21, s80_22, s80_22n, s80_23, s80_24, s80_25, s80_28, s80_29, s80_31, s80_32, s80_32_n, s80_35, s80_38, s80_39, s80_40, s80_41, s80_44, s80_45, s80_48, s80_49, s80_52, s80_54, s80_57, s80_60, s80_61, s80_62, s80_65, s80_68, s80_69, tw_gf, gX, gX2, gL.co, gL2.co, gS.co, gK.co h0, x_strX gS, x_goX gK h0, ea, e1, ei, q, q', tw_bi_0, nI_1, ih', ftS, spF, ← hg]
    · refine ⟨g, ?_⟩
      rw [← eH2]
      have q' := q
      rw [hg] at q'
      simp [s80_0, s80_1, s80_4, s80_7, s80_8, s80_12, s80_14, s80_17, s80_18, s80_21, s80_22, s80_22n, s80_23, s80_24, s80_25, s80_28, s80_29, s80_31, s80_32, s80_32_n, s80_35, s80_38, s80_39, s80_40, s80_41, s80_44, s80_45, s80_48, s80_49, s80_52, s80_54, s80_57, s80_60, s80_61, s80_62, s80_65, s80_68, s80_69, tw_gf, gX, gX2, gL.co, gL2.co, gS.co, gK.co h0, x_strX gS, x_goX gK h0, ea, e1, ei, q, q', tw_bi_0, ftS, spF, tw_z_0, tw_bi]
def ftF (stp : Int32 → Int32) (rw rh ra : Nat → Int32) (nr : Nat) (f : Nat → Int32) : Bool := ftS stp rw rh ra nr 0 60 (fset f (fun _ => 0) 8)
theorem x_fits (hX : h.2.2 1 = some (xC wc hk lw st fl)) (hS : XS h tc tf ns sw sh sa) {o tk od : Nat} (h0 : o ≠ 0) (ho : o ≠ 26 ∧ tk ≠ 26 ∧ od ≠ 26) (hK : XK h o tk od ft fo) (hR : XR h nr rw rh ra) (hL : XL h f) (first set : Int32) : ∃ f', tw_b 80 0 [.ref 1, .ref o, .int first, .int set, tw_un] [] h = some (some (.int (tw_bi (ftF (fun hour => spF ft fo set (strF tc tf ns sh sa first hour 0)) rw rh ra nr f))), tw_set h 26 (iC 8 f')) := by
  obtain ⟨f', hl⟩ := x_fits_loop hX hS h0 ho hK hR first set f hL 60 0 (fset f (fun _ => 0) 8) (by omega)
  rw [nI_0] at hl
  refine ⟨f', ?_⟩
  simp [s80_0, s80_1, s80_4, s80_7, s80_8, s80_12, s80_14, s80_17, s80_18, s80_21, s80_22, s80_22n, s80_23, s80_24, s80_25, s80_28, s80_29, s80_31, s80_32, s80_32_n, s80_35, s80_38, s80_39, s80_40, s80_41, s80_44, s80_45, s80_48, s80_49, s80_52, s80_54, s80_57, s80_60, s80_61, s80_62, s80_65, s80_68, s80_69, tw_gf, hX, hL.co, x_forget hL.1 (by decide) hL.2 (by decide) (by decide), hl, ftF]
end XQ2
