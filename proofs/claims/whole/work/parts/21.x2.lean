/-! the class's parts: notes, tides, what works take, lateness -/
theorem tw_nI (n : Nat) : Int32.ofNat n = nI n := rfl
theorem atF_n {n s : Nat} {f : Nat → Int32} (h : s < n) (hn : n < 2 ^ 31) : atF n f (nI s) = f s := by
  unfold atF
  rw [if_pos (tw_vi_n h hn), nI_clamp (by omega)]
def fset (f g : Nat → Int32) (n : Nat) : Nat → Int32 := fun j => if j < n then g j else f j
theorem fset_0 (f g : Nat → Int32) : fset f g 0 = f := by funext j; simp [fset]
theorem fset_s (f g : Nat → Int32) (n : Nat) : upd (fset f g n) n (g n) = fset f g (n + 1) := by
  funext j
  unfold upd fset
  by_cases h : j = n
  · subst h; simp
  · by_cases h2 : j < n
    · simp [h, h2, show j < n + 1 by omega]
    · simp [h, h2, show ¬ j < n + 1 by omega]
theorem fset_g (f g : Nat → Int32) (n : Nat) : fset f g n n = f n := by simp [fset]
abbrev oC (c : Nat) (fs : List Value) : tw_C := .inr (.inr (c, fs))
abbrev iC (n : Nat) (f : Nat → Int32) : tw_C := .inl (n, f)
abbrev rC (t n : Nat) (f : Nat → Option Nat) : tw_C := .inr (.inl (t, n, f))
section XN
variable {h : tw_H} {o w hr am n : Nat} {c : Int32} {fw fh fa : Nat → Int32}
theorem x_nforget (ho : h.2.2 o = some (oC 2 [.int c, .ref w, .ref hr, .ref am])) (h0 : o ≠ 0) : tw_b 28 0 [.ref o] [] h = some (none, tw_set h o (oC 2 [.int 0, .ref w, .ref hr, .ref am])) := by
  simp [s28_0, s28_1, s28_2, s28_5, tw_sf, ho, h0, tw_fit]
theorem x_workOfN (ho : h.2.2 o = some (oC 2 [.int c, .ref w, .ref hr, .ref am])) (h0 : o ≠ 0) (hw : h.2.2 w = some (iC n fw)) (hn : n < 2 ^ 31) (i : Int32) : tw_b 82 0 [.ref o, .int i] [] h = some (some (.int (atF n fw i)), h) := by
  simp [s82_0, s82_1, s82_4, s82_5, s82_8, tw_gf, ho, h0, x_at i hw hn]
theorem x_hourOf (ho : h.2.2 o = some (oC 2 [.int c, .ref w, .ref hr, .ref am])) (h0 : o ≠ 0) (hw : h.2.2 hr = some (iC n fh)) (hn : n < 2 ^ 31) (i : Int32) : tw_b 55 0 [.ref o, .int i] [] h = some (some (.int (atF n fh i)), h) := by
  simp [s55_0, s55_1, s55_4, s55_5, s55_8, tw_gf, ho, h0, x_at i hw hn]
theorem x_amountOf (ho : h.2.2 o = some (oC 2 [.int c, .ref w, .ref hr, .ref am])) (h0 : o ≠ 0) (hw : h.2.2 am = some (iC n fa)) (hn : n < 2 ^ 31) (i : Int32) : tw_b 56 0 [.ref o, .int i] [] h = some (some (.int (atF n fa i)), h) := by
  simp [s56_0, s56_1, s56_4, s56_5, s56_8, tw_gf, ho, h0, x_at i hw hn]
theorem x_takeBack (ho : h.2.2 o = some (oC 2 [.int c, .ref w, .ref hr, .ref am])) (h0 : o ≠ 0) (k : Int32) : tw_b 51 0 [.ref o, .int k] [] h = if k < 0 ∨ c < k then some (some (.int (-2)), h) else some (some (.int (c - k)), tw_set h o (oC 2 [.int (c - k), .ref w, .ref hr, .ref am])) := by
  by_cases q : k < 0
  · simp [s51_0, s51_1, s51_4, s51_5, s51_6, s51_9, s51_12, s51_14, s51_15, s51_16, s51_17, s51_20, s51_21, s51_22, s51_25, s51_26, s51_29, q]
  · by_cases q2 : c < k
    · simp [s51_0, s51_1, s51_4, s51_5, s51_6, s51_9, s51_12, s51_14, s51_15, s51_16, s51_17, s51_20, s51_21, s51_22, s51_25, s51_26, s51_29, tw_gf, ho, h0, q, q2]
    · simp [s51_0, s51_1, s51_4, s51_5, s51_6, s51_9, s51_12, s51_14, s51_15, s51_16, s51_17, s51_20, s51_21, s51_22, s51_25, s51_26, s51_29, tw_gf, tw_sf, tw_sg, tw_fit, ho, h0, q, q2]
theorem x_addF (ho : h.2.2 o = some (oC 2 [.int (nI n), .ref w, .ref hr, .ref am])) (h0 : o ≠ 0) (hw : h.2.2 w = some (iC n fw)) (hn : n < 2 ^ 31) (k hour a : Int32) : tw_b 49 0 [.ref o, .int k, .int hour, .int a] [] h = some (some (.int (-4)), h) := by
  have e1 := nI_pos hn
  have e2 : ¬ nI n < nI n := fun z => Int32.lt_irrefl z
  simp [s49_0, s49_1, s49_4, s49_7, s49_8, s49_11, s49_12, s49_15, s49_16, s49_19, s49_20, s49_23, s49_24, s49_27, s49_28, s49_31, s49_32, s49_35, s49_36, s49_39, s49_40, s49_43, s49_45, s49_46, s49_47, s49_50, s49_51, s49_54, s49_55, s49_56, s49_57, s49_60, s49_61, s49_64, s49_65, s49_66, s49_67, s49_70, s49_71, s49_74, s49_75, s49_76, s49_77, s49_78, s49_81, s49_82, s49_83, s49_84, s49_87, tw_gf, tw_al, ho, h0, hw, e1, e2, tw_nI]
theorem x_addO {m : Nat} (ho : h.2.2 o = some (oC 2 [.int (nI m), .ref w, .ref hr, .ref am])) (h0 : o ≠ 0) (hw : h.2.2 w = some (iC n fw)) (hh : h.2.2 hr = some (iC n fh)) (ha : h.2.2 am = some (iC n fa)) (hn : n < 2 ^ 31) (hm : m < n) (d : w ≠ 0 ∧ hr ≠ 0 ∧ am ≠ 0 ∧ o ≠ w ∧ o ≠ hr ∧ o ≠ am ∧ w ≠ hr ∧ w ≠ am ∧ hr ≠ am) (k hour a : Int32) : tw_b 49 0 [.ref o, .int k, .int hour, .int a] [] h = some (some (.int (nI m)), tw_set (tw_set (tw_set (tw_set h w (iC n (upd fw m k))) hr (iC n (upd fh m hour))) am (iC n (upd fa m a))) o (oC 2 [.int (nI (m + 1)), .ref w, .ref hr, .ref am])) := by
  obtain ⟨d1, d2, d3, d4, d5, d6, d7, d8, d9⟩ := d
  have e1 := nI_pos (show m < 2 ^ 31 by omega)
  have e2 : nI m < nI n := nI_lt hm hn
  have e3 := nI_clamp (show m < 2 ^ 31 by omega)
  have e4 := tw_vi_n hm hn
  simp [s49_0, s49_1, s49_4, s49_7, s49_8, s49_11, s49_12, s49_15, s49_16, s49_19, s49_20, s49_23, s49_24, s49_27, s49_28, s49_31, s49_32, s49_35, s49_36, s49_39, s49_40, s49_43, s49_45, s49_46, s49_47, s49_50, s49_51, s49_54, s49_55, s49_56, s49_57, s49_60, s49_61, s49_64, s49_65, s49_66, s49_67, s49_70, s49_71, s49_74, s49_75, s49_76, s49_77, s49_78, s49_81, s49_82, s49_83, s49_84, s49_87, tw_gf, tw_al, tw_ix, tw_sf, tw_sg, tw_fit, ho, h0, hw, hh, ha, e1, e2, e3, e4, tw_nI, d1, d2, d3, d4, d5, d6, d7, d8, d9, d7.symm, d8.symm, d9.symm, d4.symm, d5.symm, d6.symm, nI_1]
end XN
section XS
variable {h : tw_H} {o so td w hr am : Nat} {tc : Int32} {ft fw fh fa : Nat → Int32}
def tideF (tc : Int32) (ft : Nat → Int32) (x : Int32) : Int32 := if 0 < tc then atF 6 ft (x - x / tc * tc) else 0
theorem x_tideAt (ho : h.2.2 o = some (oC 5 [.ref so, .int tc, .ref td])) (h0 : o ≠ 0) (ht : h.2.2 td = some (iC 6 ft)) (st hour : Int32) : tw_b 54 0 [.ref o, .int st, .int hour] [] h = some (some (.int (tideF tc ft (st + hour))), h) := by
  unfold tideF
  by_cases q : 0 < tc
  · have q2 : ¬ tc = 0 := fun z => by rw [z] at q; exact absurd q (by decide)
    simp [s54_0, s54_1, s54_4, s54_7, s54_8, s54_11, s54_12, s54_13, s54_14, s54_15, s54_18, s54_19, s54_22, s54_25, s54_26, tw_gf, ho, h0, q, q2, x_at _ ht (by decide)]
  · simp [s54_0, s54_1, s54_4, s54_7, s54_8, s54_11, s54_12, s54_13, s54_14, s54_15, s54_18, s54_19, s54_22, s54_25, s54_26, tw_gf, ho, h0, q]
def stS (fh fa : Nat → Int32) (hr : Int32) : Nat → Nat → Int32 → Int32
  | _, 0, acc => acc
  | s, d + 1, acc => stS fh fa hr (s + 1) d (acc + if fh s = hr then fa s else 0)
theorem x_str_loop {ns : Nat} (ho : h.2.2 o = some (oC 5 [.ref so, .int tc, .ref td])) (h0 : o ≠ 0) (hs : h.2.2 so = some (oC 2 [.int (nI ns), .ref w, .ref hr, .ref am])) (hs0 : so ≠ 0) (hh : h.2.2 hr = some (iC 6 fh)) (ha : h.2.2 am = some (iC 6 fa)) (hns : ns ≤ 6) (st hour mo : Int32) : ∀ (d s : Nat) (acc : Int32), s + d = ns → tw_b 53 13 [.ref o, .int st, .int hour, .int mo, .int acc, .int (nI s)] [] h = some (some (.int (let x := stS fh fa hour s d acc; if x < 0 then 0 else x)), h) := by
  intro d
  induction d with
  | zero =>
    intro s acc hd
    have e : ¬ nI s < nI ns := nI_nlt (by omega) (by omega)
    rw [s53_13]
    simp [s53_0, s53_1, s53_2, s53_3, s53_6, s53_7, s53_8, s53_10, s53_11, s53_15, s53_16, s53_19, s53_22, s53_25, s53_27, s53_28, s53_31, s53_33, s53_36, s53_37, s53_40, s53_41, s53_44, s53_46, s53_49, s53_52, s53_53, s53_54, s53_56, s53_59, s53_62, s53_64, s53_65, s53_68, tw_gf, ho, h0, hs, hs0, e, stS]
    by_cases q : acc < 0 <;> simp [q]
  | succ d ih =>
    intro s acc hd
    have e : nI s < nI ns := nI_lt (by omega) (by omega)
    have e1 := x_hourOf hs hs0 hh (by decide) (nI s)
    have e2 := x_amountOf hs hs0 ha (by decide) (nI s)
    rw [atF_n (by omega) (by decide)] at e1 e2
    have ih' := ih (s + 1) (acc + if fh s = hour then fa s else 0) (by omega)
    have hco : tw_co h so = some 2 := by simp [tw_co, hs, hs0]
    rw [s53_13]
    by_cases q : fh s = hour
    · simp [s53_0, s53_1, s53_2, s53_3, s53_6, s53_7, s53_8, s53_10, s53_11, s53_15, s53_16, s53_19, s53_22, s53_25, s53_27, s53_28, s53_31, s53_33, s53_36, s53_37, s53_40, s53_41, s53_44, s53_46, s53_49, s53_52, s53_53, s53_54, s53_56, s53_59, s53_62, s53_64, s53_65, s53_68, tw_gf, ho, h0, hs, hs0, e, e1, e2, hco, q, nI_1]
      simp [q] at ih'
      rw [ih', stS]
      simp [q]
    · simp [s53_0, s53_1, s53_2, s53_3, s53_6, s53_7, s53_8, s53_10, s53_11, s53_15, s53_16, s53_19, s53_22, s53_25, s53_27, s53_28, s53_31, s53_33, s53_36, s53_37, s53_40, s53_41, s53_44, s53_46, s53_49, s53_52, s53_53, s53_54, s53_56, s53_59, s53_62, s53_64, s53_65, s53_68, tw_gf, ho, h0, hs, hs0, e, e1, e2, hco, q, nI_1]
      simp [q] at ih'
      rw [ih', stS]
      simp [q]
def strF (tc : Int32) (ft : Nat → Int32) (ns : Nat) (fh fa : Nat → Int32) (st hour mo : Int32) : Int32 := let x := stS fh fa hour 0 ns (tideF tc ft (st + hour) + mo); if x < 0 then 0 else x
theorem x_strengthAt {ns : Nat} (ho : h.2.2 o = some (oC 5 [.ref so, .int tc, .ref td])) (h0 : o ≠ 0) (ht : h.2.2 td = some (iC 6 ft)) (hs : h.2.2 so = some (oC 2 [.int (nI ns), .ref w, .ref hr, .ref am])) (hs0 : so ≠ 0) (hh : h.2.2 hr = some (iC 6 fh)) (ha : h.2.2 am = some (iC 6 fa)) (hns : ns ≤ 6) (st hour mo : Int32) : tw_b 53 0 [.ref o, .int st, .int hour, .int mo, tw_un, tw_un] [] h = some (some (.int (strF tc ft ns fh fa st hour mo)), h) := by
  have hco : tw_co h o = some 5 := by simp [tw_co, ho, h0]
  have hl := x_str_loop ho h0 hs hs0 hh ha hns st hour mo ns 0 (tideF tc ft (st + hour) + mo) (by omega)
  rw [nI_0] at hl
  simp [s53_0, s53_1, s53_2, s53_3, s53_6, s53_7, s53_8, s53_10, s53_11, s53_15, s53_16, s53_19, s53_22, s53_25, s53_27, s53_28, s53_31, s53_33, s53_36, s53_37, s53_40, s53_41, s53_44, s53_46, s53_49, s53_52, s53_53, s53_54, s53_56, s53_59, s53_62, s53_64, s53_65, s53_68, x_tideAt ho h0 ht, hco, hl]
  rfl
end XS
