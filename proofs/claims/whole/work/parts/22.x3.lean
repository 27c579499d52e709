/-! the class's parts: stopping, lateness -/
section XP
variable {h : tw_H} {o tk od : Nat} {ft fo : Nat → Int32}
def tkS (ft : Nat → Int32) (set : Int32) : Nat → Nat → Int32 → Int32
  | _, 0, acc => acc
  | s, d + 1, acc => tkS ft set (s + 1) d (acc + if hasB set (nI s) = true then ft s else 0)
theorem x_taken_loop (ho : h.2.2 o = some (oC 6 [.ref tk, .ref od])) (h0 : o ≠ 0) (ht : h.2.2 tk = some (iC 8 ft)) (set : Int32) : ∀ (d s : Nat) (acc : Int32), s + d = 8 → tw_b 60 4 [.ref o, .int set, .int acc, .int (nI s)] [] h = some (some (.int (tkS ft set s d acc)), h) := by
  intro d
  induction d with
  | zero =>
    intro s acc hd
    have e : ¬ nI s < nI 8 := nI_nlt (by omega) (by omega)
    rw [s60_4]
    simp [s60_0, s60_1, s60_2, s60_3, s60_5, s60_6, s60_9, s60_10, s60_13, s60_14, s60_15, s60_16, s60_19, s60_22, s60_23, s60_26, s60_27, s60_28, s60_31, s60_32, s60_33, s60_34, s60_37, s60_40, s60_41, tw_gf, tw_al, ho, h0, ht, tw_nI, e, tkS]
  | succ d ih =>
    intro s acc hd
    have e : nI s < nI 8 := nI_lt (by omega) (by omega)
    have ev := tw_vi_n (show s < 8 by omega) (by decide)
    have ec := nI_clamp (show s < 2 ^ 31 by omega)
    rw [s60_4]
    by_cases q : hasB set (nI s) = true
    · simp [s60_0, s60_1, s60_2, s60_3, s60_5, s60_6, s60_9, s60_10, s60_13, s60_14, s60_15, s60_16, s60_19, s60_22, s60_23, s60_26, s60_27, s60_28, s60_31, s60_32, s60_33, s60_34, s60_37, s60_40, s60_41, tw_gf, tw_al, tw_ia, ho, h0, ht, tw_nI, e, x_has, tw_bi_0, q, ev, ec, nI_1, ih (s + 1) _ (show s + 1 + d = 8 by omega), tkS]
    · simp [s60_0, s60_1, s60_2, s60_3, s60_5, s60_6, s60_9, s60_10, s60_13, s60_14, s60_15, s60_16, s60_19, s60_22, s60_23, s60_26, s60_27, s60_28, s60_31, s60_32, s60_33, s60_34, s60_37, s60_40, s60_41, tw_gf, tw_al, tw_ia, ho, h0, ht, tw_nI, e, x_has, tw_bi_0, q, ev, ec, nI_1, ih (s + 1) _ (show s + 1 + d = 8 by omega), tkS]
theorem x_takenBy (ho : h.2.2 o = some (oC 6 [.ref tk, .ref od])) (h0 : o ≠ 0) (ht : h.2.2 tk = some (iC 8 ft)) (set : Int32) : tw_b 60 0 [.ref o, .int set, tw_un, tw_un] [] h = some (some (.int (tkS ft set 0 8 0)), h) := by
  have hl := x_taken_loop ho h0 ht set 8 0 0 (by omega)
  rw [nI_0] at hl
  simp [s60_0, s60_1, s60_2, s60_3, s60_5, s60_6, s60_9, s60_10, s60_13, s60_14, s60_15, s60_16, s60_19, s60_22, s60_23, s60_26, s60_27, s60_28, s60_31, s60_32, s60_33, s60_34, s60_37, s60_40, s60_41, hl]
def goS (ft fo : Nat → Int32) (str : Int32) : Nat → Nat → Int32 → Int32 → Int32
  | _, 0, g, _ => g
  | p, d + 1, g, t => if str < t then goS ft fo str (p + 1) d (g &&& (bitI (fo p) ^^^ -1)) (t - if hasB g (fo p) = true then atF 8 ft (fo p) else 0) else g
theorem x_going_loop (ho : h.2.2 o = some (oC 6 [.ref tk, .ref od])) (h0 : o ≠ 0) (ht : h.2.2 tk = some (iC 8 ft)) (hod : h.2.2 od = some (iC 8 fo)) (set str : Int32) : ∀ (d p : Nat) (g t : Int32) (v6 : Value), p + d = 8 → tw_b 59 12 [.ref o, .int set, .int str, .int g, .int t, .int (nI p), v6] [] h = some (some (.int (goS ft fo str p d g t)), h) := by
  intro d
  induction d with
  | zero =>
    intro p g t v6 hd
    have e : ¬ nI p < nI 8 := nI_nlt (by omega) (by omega)
    rw [s59_12]
    simp [s59_0, s59_1, s59_2, s59_3, s59_4, s59_7, s59_9, s59_10, s59_14, s59_15, s59_18, s59_19, s59_22, s59_24, s59_25, s59_28, s59_29, s59_32, s59_34, s59_35, s59_37, s59_39, s59_40, s59_42, s59_45, s59_48, s59_49, s59_52, s59_54, s59_57, s59_60, s59_61, s59_62, s59_64, s59_65, s59_67, s59_70, s59_71, s59_72, s59_73, s59_74, s59_77, s59_80, s59_81, tw_gf, tw_al, ho, h0, hod, tw_nI, e, goS]
  | succ d ih =>
    intro p g t v6 hd
    have e : nI p < nI 8 := nI_lt (by omega) (by omega)
    have ev := tw_vi_n (show p < 8 by omega) (by decide)
    have ec := nI_clamp (show p < 2 ^ 31 by omega)
    have ea := x_at (fo p) ht (by decide)
    rw [s59_12]
    by_cases q : str < t
    · by_cases q2 : hasB g (fo p) = true
      · simp [s59_0, s59_1, s59_2, s59_3, s59_4, s59_7, s59_9, s59_10, s59_14, s59_15, s59_18, s59_19, s59_22, s59_24, s59_25, s59_28, s59_29, s59_32, s59_34, s59_35, s59_37, s59_39, s59_40, s59_42, s59_45, s59_48, s59_49, s59_52, s59_54, s59_57, s59_60, s59_61, s59_62, s59_64, s59_65, s59_67, s59_70, s59_71, s59_72, s59_73, s59_74, s59_77, s59_80, s59_81, tw_gf, tw_al, tw_ia, ho, h0, hod, tw_nI, e, x_has, x_bit, tw_bi_0, q, q2, ev, ec, ea, nI_1, ih (p + 1) _ _ _ (show p + 1 + d = 8 by omega), goS]
      · simp [s59_0, s59_1, s59_2, s59_3, s59_4, s59_7, s59_9, s59_10, s59_14, s59_15, s59_18, s59_19, s59_22, s59_24, s59_25, s59_28, s59_29, s59_32, s59_34, s59_35, s59_37, s59_39, s59_40, s59_42, s59_45, s59_48, s59_49, s59_52, s59_54, s59_57, s59_60, s59_61, s59_62, s59_64, s59_65, s59_67, s59_70, s59_71, s59_72, s59_73, s59_74, s59_77, s59_80, s59_81, tw_gf, tw_al, tw_ia, ho, h0, hod, tw_nI, e, x_has, x_bit, tw_bi_0, q, q2, ev, ec, ea, nI_1, ih (p + 1) _ _ _ (show p + 1 + d = 8 by omega), goS]
    · simp [s59_0, s59_1, s59_2, s59_3, s59_4, s59_7, s59_9, s59_10, s59_14, s59_15, s59_18, s59_19, s59_22, s59_24, s59_25, s59_28, s59_29, s59_32, s59_34, s59_35, s59_37, s59_39, s59_40, s59_42, s59_45, s59_48, s59_49, s59_52, s59_54, s59_57, s59_60, s59_61, s59_62, s59_64, s59_65, s59_67, s59_70, s59_71, s59_72, s59_73, s59_74, s59_77, s59_80, s59_81, tw_gf, tw_al, tw_ia, ho, h0, hod, tw_nI, e, q, goS]
def goF (ft fo : Nat → Int32) (set str : Int32) : Int32 := goS ft fo str 0 8 set (tkS ft set 0 8 0)
theorem x_going (ho : h.2.2 o = some (oC 6 [.ref tk, .ref od])) (h0 : o ≠ 0) (ht : h.2.2 tk = some (iC 8 ft)) (hod : h.2.2 od = some (iC 8 fo)) (set str : Int32) : tw_b 59 0 [.ref o, .int set, .int str, tw_un, tw_un, tw_un, tw_un] [] h = some (some (.int (goF ft fo set str)), h) := by
  have hl := x_going_loop ho h0 ht hod set str 8 0 set (tkS ft set 0 8 0) tw_un (by omega)
  rw [nI_0] at hl
  have hco : tw_co h o = some 6 := by simp [tw_co, ho, h0]
  simp [s59_0, s59_1, s59_2, s59_3, s59_4, s59_7, s59_9, s59_10, s59_14, s59_15, s59_18, s59_19, s59_22, s59_24, s59_25, s59_28, s59_29, s59_32, s59_34, s59_35, s59_37, s59_39, s59_40, s59_42, s59_45, s59_48, s59_49, s59_52, s59_54, s59_57, s59_60, s59_61, s59_62, s59_64, s59_65, s59_67, s59_70, s59_71, s59_72, s59_73, s59_74, s59_77, s59_80, s59_81, x_takenBy ho h0 ht, hco, hl, goF]
end XP
section XL
variable {h : tw_H} {o l : Nat} {f : Nat → Int32}
theorem x_forget_loop (ho : h.2.2 o = some (oC 1 [.ref l])) (h0 : o ≠ 0) (hl0 : l ≠ 0) (hol : o ≠ l) : ∀ (d s : Nat), s + d = 8 → tw_b 64 2 [.ref o, .int (nI s)] [] (tw_set h l (iC 8 (fset f (fun _ => 0) s))) = some (none, tw_set h l (iC 8 (fset f (fun _ => 0) 8))) := by
  intro d
  induction d with
  | zero =>
    intro s hd
    have e : ¬ nI s < nI 8 := nI_nlt (by omega) (by omega)
    have hs : s = 8 := by omega
    rw [s64_2]
    simp [s64_0, s64_1, s64_3, s64_4, s64_7, s64_8, s64_11, s64_12, s64_15, s64_16, s64_17, s64_18, s64_21, s64_24, tw_gf, tw_al, tw_sg, ho, h0, hol, tw_nI, e]
    rw [hs]
  | succ d ih =>
    intro s hd
    have e : nI s < nI 8 := nI_lt (by omega) (by omega)
    have ev := tw_vi_n (show s < 8 by omega) (by decide)
    have ec := nI_clamp (show s < 2 ^ 31 by omega)
    have ef := fset_s f (fun _ => 0) s
    rw [s64_2]
    simp [s64_0, s64_1, s64_3, s64_4, s64_7, s64_8, s64_11, s64_12, s64_15, s64_16, s64_17, s64_18, s64_21, s64_24, tw_gf, tw_al, tw_ix, tw_sg, ho, h0, hl0, hol, tw_nI, e, ev, ec, ef, nI_1, tw_ss, ih (s + 1) (show s + 1 + d = 8 by omega)]
theorem x_forget (ho : h.2.2 o = some (oC 1 [.ref l])) (h0 : o ≠ 0) (hl : h.2.2 l = some (iC 8 f)) (hl0 : l ≠ 0) (hol : o ≠ l) : tw_b 64 0 [.ref o, tw_un] [] h = some (none, tw_set h l (iC 8 (fset f (fun _ => 0) 8))) := by
  have hq := x_forget_loop (f := f) ho h0 hl0 hol 8 0 (by omega)
  rw [nI_0, fset_0, tw_si h hl] at hq
  simp [s64_0, s64_1, s64_3, s64_4, s64_7, s64_8, s64_11, s64_12, s64_15, s64_16, s64_17, s64_18, s64_21, s64_24, hq]
def addG (set : Int32) (f : Nat → Int32) : Nat → Int32 := fun j => f j + if hasB set (nI j) = true then 1 else 0
theorem x_ladd_loop (ho : h.2.2 o = some (oC 1 [.ref l])) (h0 : o ≠ 0) (hl0 : l ≠ 0) (hol : o ≠ l) (set : Int32) : ∀ (d s : Nat), s + d = 8 → tw_b 65 2 [.ref o, .int set, .int (nI s)] [] (tw_set h l (iC 8 (fset f (addG set f) s))) = some (none, tw_set h l (iC 8 (fset f (addG set f) 8))) := by
  intro d
  induction d with
  | zero =>
    intro s hd
    have e : ¬ nI s < nI 8 := nI_nlt (by omega) (by omega)
    have hs : s = 8 := by omega
    rw [s65_2]
    simp [s65_0, s65_1, s65_3, s65_4, s65_7, s65_8, s65_11, s65_12, s65_15, s65_16, s65_17, s65_18, s65_19, s65_20, s65_23, s65_26, s65_27, s65_30, s65_31, s65_32, s65_33, s65_36, s65_39, tw_gf, tw_al, tw_sg, ho, h0, hol, tw_nI, e]
    rw [hs]
  | succ d ih =>
    intro s hd
    have e : nI s < nI 8 := nI_lt (by omega) (by omega)
    have ev := tw_vi_n (show s < 8 by omega) (by decide)
    have ec := nI_clamp (show s < 2 ^ 31 by omega)
    have ef := fset_s f (addG set f) s
    have eg := fset_g f (addG set f) s
    rw [s65_2]
    by_cases q : hasB set (nI s) = true
    · have ea : addG set f s = f s + 1 := by simp [addG, q]
      rw [ea] at ef
      simp [s65_0, s65_1, s65_3, s65_4, s65_7, s65_8, s65_11, s65_12, s65_15, s65_16, s65_17, s65_18, s65_19, s65_20, s65_23, s65_26, s65_27, s65_30, s65_31, s65_32, s65_33, s65_36, s65_39, tw_gf, tw_al, tw_ix, tw_ia, tw_sg, ho, h0, hl0, hol, tw_nI, e, ev, ec, eg, ef, x_has, tw_bi_0, q, nI_1, tw_ss, ih (s + 1) (show s + 1 + d = 8 by omega)]
    · have ea : addG set f s = f s + 0 := by simp [addG, q]
      rw [ea] at ef
      simp only [Int32.add_zero] at ef
      simp [s65_0, s65_1, s65_3, s65_4, s65_7, s65_8, s65_11, s65_12, s65_15, s65_16, s65_17, s65_18, s65_19, s65_20, s65_23, s65_26, s65_27, s65_30, s65_31, s65_32, s65_33, s65_36, s65_39, tw_gf, tw_al, tw_ix, tw_ia, tw_sg, ho, h0, hl0, hol, tw_nI, e, ev, ec, eg, ef, x_has, tw_bi_0, q, nI_1, tw_ss, ih (s + 1) (show s + 1 + d = 8 by omega)]
theorem x_ladd (ho : h.2.2 o = some (oC 1 [.ref l])) (h0 : o ≠ 0) (hl : h.2.2 l = some (iC 8 f)) (hl0 : l ≠ 0) (hol : o ≠ l) (set : Int32) : tw_b 65 0 [.ref o, .int set, tw_un] [] h = some (none, tw_set h l (iC 8 (fset f (addG set f) 8))) := by
  have hq := x_ladd_loop (f := f) ho h0 hl0 hol set 8 0 (by omega)
  rw [nI_0, fset_0, tw_si h hl] at hq
  simp [s65_0, s65_1, s65_3, s65_4, s65_7, s65_8, s65_11, s65_12, s65_15, s65_16, s65_17, s65_18, s65_19, s65_20, s65_23, s65_26, s65_27, s65_30, s65_31, s65_32, s65_33, s65_36, s65_39, hq]
def alS (f : Nat → Int32) (set : Int32) : Nat → Nat → Int32 → Bool
  | _, 0, _ => true
  | s, d + 1, fst => if hasB set (nI s) = true then (if f s = atF 8 f (if fst = -1 then nI s else fst) then alS f set (s + 1) d (if fst = -1 then nI s else fst) else false) else alS f set (s + 1) d fst
theorem x_alike_loop (ho : h.2.2 o = some (oC 1 [.ref l])) (h0 : o ≠ 0) (hl : h.2.2 l = some (iC 8 f)) (set : Int32) : ∀ (d s : Nat) (fst : Int32), s + d = 8 → tw_b 66 4 [.ref o, .int set, .int fst, .int (nI s)] [] h = some (some (.int (tw_bi (alS f set s d fst))), h) := by
  intro d
  induction d with
  | zero =>
    intro s fst hd
    have e : ¬ nI s < nI 8 := nI_nlt (by omega) (by omega)
    rw [s66_4]
    simp [s66_0, s66_1, s66_2, s66_3, s66_5, s66_6, s66_9, s66_10, s66_13, s66_14, s66_15, s66_18, s66_21, s66_22, s66_23, s66_26, s66_27, s66_28, s66_29, s66_30, s66_33, s66_36, s66_37, s66_40, s66_41, s66_42, s66_43, s66_46, s66_47, s66_50, s66_53, s66_54, s66_55, s66_58, s66_61, s66_62, tw_gf, tw_al, ho, h0, hl, tw_nI, e, alS, tw_z_1, tw_bi]
  | succ d ih =>
    intro s fst hd
    have e : nI s < nI 8 := nI_lt (by omega) (by omega)
    have ev := tw_vi_n (show s < 8 by omega) (by decide)
    have ec := nI_clamp (show s < 2 ^ 31 by omega)
    rw [s66_4]
    by_cases q : hasB set (nI s) = true
    · by_cases q2 : fst = -1
      · by_cases q3 : f s = atF 8 f (nI s)
        · simp [s66_0, s66_1, s66_2, s66_3, s66_5, s66_6, s66_9, s66_10, s66_13, s66_14, s66_15, s66_18, s66_21, s66_22, s66_23, s66_26, s66_27, s66_28, s66_29, s66_30, s66_33, s66_36, s66_37, s66_40, s66_41, s66_42, s66_43, s66_46, s66_47, s66_50, s66_53, s66_54, s66_55, s66_58, s66_61, s66_62, tw_gf, tw_al, tw_ia, ho, h0, hl, tw_nI, e, x_has, tw_bi_0, q, q2, ev, ec, x_at _ hl (show 8 < 2 ^ 31 by decide), nI_1, ih (s + 1) _ (show s + 1 + d = 8 by omega), alS, ← q3]
        · simp [s66_0, s66_1, s66_2, s66_3, s66_5, s66_6, s66_9, s66_10, s66_13, s66_14, s66_15, s66_18, s66_21, s66_22, s66_23, s66_26, s66_27, s66_28, s66_29, s66_30, s66_33, s66_36, s66_37, s66_40, s66_41, s66_42, s66_43, s66_46, s66_47, s66_50, s66_53, s66_54, s66_55, s66_58, s66_61, s66_62, tw_gf, tw_al, tw_ia, ho, h0, hl, tw_nI, e, x_has, tw_bi_0, q, q2, q3, ev, ec, x_at _ hl (show 8 < 2 ^ 31 by decide), nI_1, ih (s + 1) _ (show s + 1 + d = 8 by omega), alS, tw_z_0, tw_bi]
      · by_cases q3 : f s = atF 8 f fst
        · simp [s66_0, s66_1, s66_2, s66_3, s66_5, s66_6, s66_9, s66_10, s66_13, s66_14, s66_15, s66_18, s66_21, s66_22, s66_23, s66_26, s66_27, s66_28, s66_29, s66_30, s66_33, s66_36, s66_37, s66_40, s66_41, s66_42, s66_43, s66_46, s66_47, s66_50, s66_53, s66_54, s66_55, s66_58, s66_61, s66_62, tw_gf, tw_al, tw_ia, ho, h0, hl, tw_nI, e, x_has, tw_bi_0, q, q2, ev, ec, x_at _ hl (show 8 < 2 ^ 31 by decide), nI_1, ih (s + 1) _ (show s + 1 + d = 8 by omega), alS, ← q3]
        · simp [s66_0, s66_1, s66_2, s66_3, s66_5, s66_6, s66_9, s66_10, s66_13, s66_14, s66_15, s66_18, s66_21, s66_22, s66_23, s66_26, s66_27, s66_28, s66_29, s66_30, s66_33, s66_36, s66_37, s66_40, s66_41, s66_42, s66_43, s66_46, s66_47, s66_50, s66_53, s66_54, s66_55, s66_58, s66_61, s66_62, tw_gf, tw_al, tw_ia, ho, h0, hl, tw_nI, e, x_has, tw_bi_0, q, q2, q3, ev, ec, x_at _ hl (show 8 < 2 ^ 31 by decide), nI_1, ih (s + 1) _ (show s + 1 + d = 8 by omega), alS, tw_z_0, tw_bi]
    · simp [s66_0, s66_1, s66_2, s66_3, s66_5, s66_6, s66_9, s66_10, s66_13, s66_14, s66_15, s66_18, s66_21, s66_22, s66_23, s66_26, s66_27, s66_28, s66_29, s66_30, s66_33, s66_36, s66_37, s66_40, s66_41, s66_42, s66_43, s66_46, s66_47, s66_50, s66_53, s66_54, s66_55, s66_58, s66_61, s66_62, tw_gf, tw_al, tw_ia, ho, h0, hl, tw_nI, e, x_has, tw_bi_0, q, ev, ec, nI_1, ih (s + 1) _ (show s + 1 + d = 8 by omega), alS]
theorem x_isAlike (ho : h.2.2 o = some (oC 1 [.ref l])) (h0 : o ≠ 0) (hl : h.2.2 l = some (iC 8 f)) (set : Int32) : tw_b 66 0 [.ref o, .int set, tw_un, tw_un] [] h = some (some (.int (tw_bi (alS f set 0 8 (-1)))), h) := by
  have hq := x_alike_loop ho h0 hl set 8 0 (-1) (by omega)
  rw [nI_0] at hq
  simp [s66_0, s66_1, s66_2, s66_3, s66_5, s66_6, s66_9, s66_10, s66_13, s66_14, s66_15, s66_18, s66_21, s66_22, s66_23, s66_26, s66_27, s66_28, s66_29, s66_30, s66_33, s66_36, s66_37, s66_40, s66_41, s66_42, s66_43, s66_46, s66_47, s66_50, s66_53, s66_54, s66_55, s66_58, s66_61, s66_62, hq]
def rdS (f fw fh fa : Nat → Int32) (hour : Int32) : Nat → Nat → Bool
  | _, 0 => true
  | s, d + 1 => if fh s = hour then (if atF 8 f (fw s) = fa s then rdS f fw fh fa hour (s + 1) d else false) else rdS f fw fh fa hour (s + 1) d
theorem x_read_loop {nt w hr am nr n : Nat} {fw fh fa : Nat → Int32} (ho : h.2.2 o = some (oC 1 [.ref l])) (h0 : o ≠ 0) (hl : h.2.2 l = some (iC 8 f)) (hn : h.2.2 nt = some (oC 2 [.int (nI nr), .ref w, .ref hr, .ref am])) (hn0 : nt ≠ 0) (hw : h.2.2 w = some (iC n fw)) (hh : h.2.2 hr = some (iC n fh)) (ha : h.2.2 am = some (iC n fa)) (hnr : nr ≤ n) (hn8 : n < 2 ^ 31) (hour : Int32) : ∀ (d s : Nat) (v : Value), s + d = nr → tw_b 81 2 [.ref o, .ref nt, .int hour, .int (nI s), v] [] h = some (some (.int (tw_bi (rdS f fw fh fa hour s d))), h) := by
  have hco : tw_co h nt = some 2 := by simp [tw_co, hn, hn0]
  intro d
  induction d with
  | zero =>
    intro s v hd
    have e : ¬ nI s < nI nr := nI_nlt (by omega) (by omega)
    rw [s81_2]
    simp [s81_0, s81_1, s81_3, s81_3n, s81_4, s81_7, s81_10, s81_10n, s81_11, s81_12, s81_15, s81_16, s81_19, s81_20, s81_23, s81_24, s81_26, s81_28, s81_31, s81_32, s81_35, s81_35n, s81_36, s81_37, s81_40, s81_43, s81_43n, s81_44, s81_45, s81_48, s81_51, s81_52, s81_53, s81_56, s81_59, s81_60, tw_gf, hn, hn0, e, rdS, tw_z_1, tw_bi]
  | succ d ih =>
    intro s v hd
    have e : nI s < nI nr := nI_lt (by omega) (by omega)
    have e1 := x_hourOf hn hn0 hh hn8 (nI s)
    have e2 := x_amountOf hn hn0 ha hn8 (nI s)
    have e3 := x_workOfN hn hn0 hw hn8 (nI s)
    rw [atF_n (by omega) hn8] at e1 e2 e3
    rw [s81_2]
    by_cases q : fh s = hour
    · by_cases q2 : atF 8 f (fw s) = fa s
      · simp [s81_0, s81_1, s81_3, s81_3n, s81_4, s81_7, s81_10, s81_10n, s81_11, s81_12, s81_15, s81_16, s81_19, s81_20, s81_23, s81_24, s81_26, s81_28, s81_31, s81_32, s81_35, s81_35n, s81_36, s81_37, s81_40, s81_43, s81_43n, s81_44, s81_45, s81_48, s81_51, s81_52, s81_53, s81_56, s81_59, s81_60, tw_gf, ho, h0, hn, hn0, e, e1, e2, e3, hco, x_at _ hl (show 8 < 2 ^ 31 by decide), q, q2, nI_1, ih (s + 1) _ (show s + 1 + d = nr by omega), rdS]
      · simp [s81_0, s81_1, s81_3, s81_3n, s81_4, s81_7, s81_10, s81_10n, s81_11, s81_12, s81_15, s81_16, s81_19, s81_20, s81_23, s81_24, s81_26, s81_28, s81_31, s81_32, s81_35, s81_35n, s81_36, s81_37, s81_40, s81_43, s81_43n, s81_44, s81_45, s81_48, s81_51, s81_52, s81_53, s81_56, s81_59, s81_60, tw_gf, ho, h0, hn, hn0, e, e1, e2, e3, hco, x_at _ hl (show 8 < 2 ^ 31 by decide), q, q2, rdS, tw_z_0, tw_bi]
    · simp [s81_0, s81_1, s81_3, s81_3n, s81_4, s81_7, s81_10, s81_10n, s81_11, s81_12, s81_15, s81_16, s81_19, s81_20, s81_23, s81_24, s81_26, s81_28, s81_31, s81_32, s81_35, s81_35n, s81_36, s81_37, s81_40, s81_43, s81_43n, s81_44, s81_45, s81_48, s81_51, s81_52, s81_53, s81_56, s81_59, s81_60, tw_gf, ho, h0, hn, hn0, e, e1, e2, e3, hco, q, nI_1, ih (s + 1) _ (show s + 1 + d = nr by omega), rdS]
theorem x_isAsRead {nt w hr am nr n : Nat} {fw fh fa : Nat → Int32} (ho : h.2.2 o = some (oC 1 [.ref l])) (h0 : o ≠ 0) (hl : h.2.2 l = some (iC 8 f)) (hn : h.2.2 nt = some (oC 2 [.int (nI nr), .ref w, .ref hr, .ref am])) (hn0 : nt ≠ 0) (hw : h.2.2 w = some (iC n fw)) (hh : h.2.2 hr = some (iC n fh)) (ha : h.2.2 am = some (iC n fa)) (hnr : nr ≤ n) (hn8 : n < 2 ^ 31) (hour : Int32) : tw_b 81 0 [.ref o, .ref nt, .int hour, tw_un, tw_un] [] h = some (some (.int (tw_bi (rdS f fw fh fa hour 0 nr))), h) := by
  have hq := x_read_loop ho h0 hl hn hn0 hw hh ha hnr hn8 hour nr 0 tw_un (by omega)
  rw [nI_0] at hq
  simp [s81_0, s81_1, s81_3, s81_3n, s81_4, s81_7, s81_10, s81_10n, s81_11, s81_12, s81_15, s81_16, s81_19, s81_20, s81_23, s81_24, s81_26, s81_28, s81_31, s81_32, s81_35, s81_35n, s81_36, s81_37, s81_40, s81_43, s81_43n, s81_44, s81_45, s81_48, s81_51, s81_52, s81_53, s81_56, s81_59, s81_60, hq]
end XL
