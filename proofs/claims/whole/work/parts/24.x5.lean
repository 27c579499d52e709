/-! the class's questions of hours -/
abbrev xC (wc hk lw st fl : Int32) : tw_C := oC 10 [.ref 2, .ref 3, .ref 7, .ref 8, .ref 14, .ref 18, .ref 19, .ref 22, .ref 25, .int wc, .int hk, .int lw, .int st, .int fl]
def XS (h : tw_H) (tc : Int32) (tf : Nat → Int32) (ns : Nat) (sw sh sa : Nat → Int32) : Prop := h.2.2 8 = some (oC 5 [.ref 9, .int tc, .ref 13]) ∧ h.2.2 13 = some (iC 6 tf) ∧ h.2.2 9 = some (oC 2 [.int (nI ns), .ref 10, .ref 11, .ref 12]) ∧ h.2.2 10 = some (iC 6 sw) ∧ h.2.2 11 = some (iC 6 sh) ∧ h.2.2 12 = some (iC 6 sa) ∧ ns ≤ 6
def XK (h : tw_H) (o tk od : Nat) (ft fo : Nat → Int32) : Prop := h.2.2 o = some (oC 6 [.ref tk, .ref od]) ∧ h.2.2 tk = some (iC 8 ft) ∧ h.2.2 od = some (iC 8 fo)
def XR (h : tw_H) (nr : Nat) (rw rh ra : Nat → Int32) : Prop := h.2.2 14 = some (oC 2 [.int (nI nr), .ref 15, .ref 16, .ref 17]) ∧ h.2.2 15 = some (iC 8 rw) ∧ h.2.2 16 = some (iC 8 rh) ∧ h.2.2 17 = some (iC 8 ra) ∧ nr ≤ 8
def XL (h : tw_H) (f : Nat → Int32) : Prop := h.2.2 25 = some (oC 1 [.ref 26]) ∧ h.2.2 26 = some (iC 8 f)
theorem XS.set {h : tw_H} {tc : Int32} {tf : Nat → Int32} {ns : Nat} {sw sh sa : Nat → Int32} (H : XS h tc tf ns sw sh sa) {a : Nat} {e : tw_C} (ha : a < 8 ∨ 13 < a) : XS (tw_set h a e) tc tf ns sw sh sa := by
  unfold XS at H ⊢
  simp only [tw_sg]
  simpa [show ¬ 8 = a by omega, show ¬ 9 = a by omega, show ¬ 10 = a by omega, show ¬ 11 = a by omega, show ¬ 12 = a by omega, show ¬ 13 = a by omega] using H
theorem XR.set {h : tw_H} {nr : Nat} {rw rh ra : Nat → Int32} (H : XR h nr rw rh ra) {a : Nat} {e : tw_C} (ha : a < 14 ∨ 17 < a) : XR (tw_set h a e) nr rw rh ra := by
  unfold XR at H ⊢
  simp only [tw_sg]
  simpa [show ¬ 14 = a by omega, show ¬ 15 = a by omega, show ¬ 16 = a by omega, show ¬ 17 = a by omega] using H
theorem XK.set {h : tw_H} {o tk od : Nat} {ft fo : Nat → Int32} (H : XK h o tk od ft fo) {a : Nat} {e : tw_C} (ha : o ≠ a ∧ tk ≠ a ∧ od ≠ a) : XK (tw_set h a e) o tk od ft fo := by
  unfold XK at H ⊢
  simp only [tw_sg]
  simpa [ha.1, ha.2.1, ha.2.2] using H
theorem XL.set {h : tw_H} {f : Nat → Int32} (H : XL h f) {a : Nat} {e : tw_C} (ha : a ≠ 25 ∧ a ≠ 26) : XL (tw_set h a e) f := by
  unfold XL at H ⊢
  simp only [tw_sg]
  simpa [ha.1.symm, ha.2.symm] using H
theorem XL.put {h : tw_H} {f g : Nat → Int32} (H : XL h f) : XL (tw_set h 26 (iC 8 g)) g := by
  unfold XL at H ⊢
  simp [tw_sg, H]
theorem x_strX {h : tw_H} {tc : Int32} {tf : Nat → Int32} {ns : Nat} {sw sh sa : Nat → Int32} (H : XS h tc tf ns sw sh sa) (st hour mo : Int32) : tw_b 53 0 [.ref 8, .int st, .int hour, .int mo, tw_un, tw_un] [] h = some (some (.int (strF tc tf ns sh sa st hour mo)), h) := x_strengthAt H.1 (by decide) H.2.1 H.2.2.1 (by decide) H.2.2.2.2.1 H.2.2.2.2.2.1 H.2.2.2.2.2.2 st hour mo
theorem x_goX {h : tw_H} {o tk od : Nat} {ft fo : Nat → Int32} (H : XK h o tk od ft fo) (h0 : o ≠ 0) (set str : Int32) : tw_b 59 0 [.ref o, .int set, .int str, tw_un, tw_un, tw_un, tw_un] [] h = some (some (.int (goF ft fo set str)), h) := x_going H.1 h0 H.2.1 H.2.2 set str
theorem XS.co {h : tw_H} {tc : Int32} {tf : Nat → Int32} {ns : Nat} {sw sh sa : Nat → Int32} (H : XS h tc tf ns sw sh sa) : tw_co h 8 = some 5 := by simp [tw_co, H.1]
theorem XS.co9 {h : tw_H} {tc : Int32} {tf : Nat → Int32} {ns : Nat} {sw sh sa : Nat → Int32} (H : XS h tc tf ns sw sh sa) : tw_co h 9 = some 2 := by simp [tw_co, H.2.2.1]
theorem XK.co {h : tw_H} {o tk od : Nat} {ft fo : Nat → Int32} (H : XK h o tk od ft fo) (h0 : o ≠ 0) : tw_co h o = some 6 := by simp [tw_co, H.1, h0]
theorem XL.co {h : tw_H} {f : Nat → Int32} (H : XL h f) : tw_co h 25 = some 1 := by simp [tw_co, H.1]
theorem XR.co {h : tw_H} {nr : Nat} {rw rh ra : Nat → Int32} (H : XR h nr rw rh ra) : tw_co h 14 = some 2 := by simp [tw_co, H.1]
section XQ
variable {h : tw_H} {wc hk lw st fl tc : Int32} {tf sw sh sa ft fo f rw rh ra : Nat → Int32} {ns nr : Nat}
/-- which works of a set stop at a strength -/
def spF (ft fo : Nat → Int32) (set str : Int32) : Int32 := set &&& (goF ft fo set str ^^^ -1)
theorem xco (hX : h.2.2 1 = some (xC wc hk lw st fl)) : tw_co h 1 = some 10 := by simp [tw_co, hX]
theorem x_stopped (hX : h.2.2 1 = some (xC wc hk lw st fl)) (hS : XS h tc tf ns sw sh sa) (hK : XK h 19 20 21 ft fo) (set hour : Int32) : tw_b 58 0 [.ref 1, .int set, .int hour] [] h = some (some (.int (spF ft fo set (strF tc tf ns sh sa st hour 0))), h) := by
  simp [s58_0, s58_1, s58_2, s58_5, s58_6, s58_7, s58_10, s58_11, s58_14, s58_15, s58_16, s58_19, s58_22, s58_23, s58_24, s58_25, tw_gf, hX, hS.co, hK.co (by decide), x_strX hS, x_goX hK (by decide), spF]
theorem x_hasNoTown (hX : h.2.2 1 = some (xC wc hk lw st fl)) : tw_b 43 0 [.ref 1] [] h = some (some (.int (tw_bi (decide (wc = 0)))), h) := by
  by_cases q : wc = 0 <;> simp [s43_0, s43_1, s43_4, s43_7, s43_8, s43_11, s43_12, tw_gf, hX, q, tw_z_0, tw_z_1, tw_bi]
theorem x_strength (hX : h.2.2 1 = some (xC wc hk lw st fl)) (hS : XS h tc tf ns sw sh sa) (hour : Int32) : tw_b 52 0 [.ref 1, .int hour] [] h = some (some (.int (if ¬ hour < 0 ∧ hour < 60 then (if wc = 0 then -3 else strF tc tf ns sh sa st hour 0) else -2)), h) := by
  by_cases q : ¬ hour < 0 ∧ hour < 60
  · by_cases q2 : wc = 0 <;> simp [s52_0, s52_1, s52_4, s52_7, s52_9, s52_10, s52_11, s52_14, s52_17, s52_19, s52_22, s52_23, s52_26, s52_27, s52_30, s52_31, s52_32, s52_35, tw_gf, hX, xco hX, x_hasNoTown hX, x_isHour, tw_bi_0, hS.co, x_strX hS, q, q2]
  · simp only [s52_0, s52_1, s52_4, s52_7, s52_9, s52_10, s52_11, s52_14, s52_17, s52_19, s52_22, s52_23, s52_26, s52_27, s52_30, s52_31, s52_32, s52_35, x_isHour, Option.bind_some, Option.bind_none, Option.toList_some, Option.toList_none, List.cons_append, List.nil_append, tw_bi_0, decide_eq_false q, if_true, if_neg q]
theorem x_goes (hX : h.2.2 1 = some (xC wc hk lw st fl)) (hS : XS h tc tf ns sw sh sa) (hK : XK h 19 20 21 ft fo) (hour : Int32) : tw_b 57 0 [.ref 1, .int hour] [] h = some (some (.int (if ¬ hour < 0 ∧ hour < 60 then (if wc = 0 then -3 else hk &&& (spF ft fo hk (strF tc tf ns sh sa st hour 0) ^^^ -1)) else -2)), h) := by
  by_cases q : ¬ hour < 0 ∧ hour < 60
  · by_cases q2 : wc = 0 <;> simp [s57_0, s57_1, s57_4, s57_7, s57_9, s57_10, s57_11, s57_14, s57_17, s57_19, s57_22, s57_23, s57_26, s57_27, s57_28, s57_31, s57_32, s57_35, s57_36, s57_37, s57_38, tw_gf, hX, xco hX, x_hasNoTown hX, x_isHour, tw_bi_0, x_stopped hX hS hK, q, q2]
  · simp only [s57_0, s57_1, s57_4, s57_7, s57_9, s57_10, s57_11, s57_14, s57_17, s57_19, s57_22, s57_23, s57_26, s57_27, s57_28, s57_31, s57_32, s57_35, s57_36, s57_37, s57_38, x_isHour, Option.bind_some, Option.bind_none, Option.toList_some, Option.toList_none, List.cons_append, List.nil_append, tw_bi_0, decide_eq_false q, if_true, if_neg q]
/-- how late a work is, hour by hour, if stp tells what stops -/
def ltS (stp : Int32 → Int32) (k : Int32) : Nat → Nat → Int32 → Int32
  | _, 0, acc => acc
  | s, d + 1, acc => ltS stp k (s + 1) d (acc + if hasB (stp (nI s)) k = true then 1 else 0)
theorem x_late_loop (hX : h.2.2 1 = some (xC wc hk lw st fl)) (hS : XS h tc tf ns sw sh sa) (hK : XK h 19 20 21 ft fo) (k : Int32) {e : Nat} (he : e < 60) : ∀ (d s : Nat) (acc : Int32), s + d = e + 1 → tw_b 61 25 [.ref 1, .int k, .int (nI e), .int acc, .int (nI s)] [] h = some (some (.int (ltS (fun hour => spF ft fo hk (strF tc tf ns sh sa st hour 0)) k s d acc)), h) := by
  intro d
  induction d with
  | zero =>
    intro s acc hd
    have e1 : nI e < nI s := nI_lt (by omega) (by omega)
    rw [s61_25]
    simp [s61_0, s61_1, s61_2, s61_5, s61_5n, s61_8, s61_9, s61_10, s61_11, s61_14, s61_17, s61_19, s61_20, s61_21, s61_22, s61_23, s61_27, s61_28, s61_31, s61_32, s61_33, s61_34, s61_37, s61_39, s61_42, s61_43, s61_46, s61_49, s61_50, s61_53, s61_54, s61_55, s61_56, s61_59, s61_62, s61_63, e1, ltS]
  | succ d ih =>
    intro s acc hd
    have e1 : ¬ nI e < nI s := nI_nlt (by omega) (by omega)
    rw [s61_25]
    by_cases q : hasB (spF ft fo hk (strF tc tf ns sh sa st (nI s) 0)) k = true
    · simp [s61_0, s61_1, s61_2, s61_5, s61_5n, s61_8, s61_9, s61_10, s61_11, s61_14, s61_17, s61_19, s61_20, s61_21, s61_22, s61_23, s61_27, s61_28, s61_31, s61_32, s61_33, s61_34, s61_37, s61_39, s61_42, s61_43, s61_46, s61_49, s61_50, s61_53, s61_54, s61_55, s61_56, s61_59, s61_62, s61_63, tw_gf, hX, xco hX, x_stopped hX hS hK, x_has, tw_bi_0, e1, q, nI_1, ih (s + 1) _ (show s + 1 + d = e + 1 by omega), ltS]
    · simp [s61_0, s61_1, s61_2, s61_5, s61_5n, s61_8, s61_9, s61_10, s61_11, s61_14, s61_17, s61_19, s61_20, s61_21, s61_22, s61_23, s61_27, s61_28, s61_31, s61_32, s61_33, s61_34, s61_37, s61_39, s61_42, s61_43, s61_46, s61_49, s61_50, s61_53, s61_54, s61_55, s61_56, s61_59, s61_62, s61_63, tw_gf, hX, xco hX, x_stopped hX hS hK, x_has, tw_bi_0, e1, q, nI_1, ih (s + 1) _ (show s + 1 + d = e + 1 by omega), ltS]
def alF (stp : Int32 → Int32) : Nat → Nat → Int32
  | _, 0 => -9
  | s, d + 1 => if stp (nI s) = 0 then nI s else alF stp (s + 1) d
theorem x_all_loop (hX : h.2.2 1 = some (xC wc hk lw st fl)) (hS : XS h tc tf ns sw sh sa) (hK : XK h 19 20 21 ft fo) (hour : Int32) : ∀ (d s : Nat), s + d = 60 → tw_b 62 22 [.ref 1, .int hour, .int (nI s)] [] h = some (some (.int (alF (fun hour => spF ft fo hk (strF tc tf ns sh sa st hour 0)) s d)), h) := by
  intro d
  induction d with
  | zero =>
    intro s hd
    have e1 : ¬ nI s < 60 := nI_nlt (b := 60) (by omega) (by omega)
    rw [s62_22]
    simp [s62_0, s62_1, s62_4, s62_7, s62_9, s62_10, s62_11, s62_14, s62_17, s62_19, s62_20, s62_21, s62_23, s62_25, s62_28, s62_29, s62_30, s62_33, s62_34, s62_37, s62_40, s62_41, s62_42, s62_45, s62_48, s62_50, e1, alF]
  | succ d ih =>
    intro s hd
    have e1 : nI s < 60 := nI_lt (b := 60) (by omega) (by omega)
    rw [s62_22]
    by_cases q : spF ft fo hk (strF tc tf ns sh sa st (nI s) 0) = 0
    · simp [s62_0, s62_1, s62_4, s62_7, s62_9, s62_10, s62_11, s62_14, s62_17, s62_19, s62_20, s62_21, s62_23, s62_25, s62_28, s62_29, s62_30, s62_33, s62_34, s62_37, s62_40, s62_41, s62_42, s62_45, s62_48, s62_50, tw_gf, hX, xco hX, x_stopped hX hS hK, e1, q, alF]
    · simp [s62_0, s62_1, s62_4, s62_7, s62_9, s62_10, s62_11, s62_14, s62_17, s62_19, s62_20, s62_21, s62_23, s62_25, s62_28, s62_29, s62_30, s62_33, s62_34, s62_37, s62_40, s62_41, s62_42, s62_45, s62_48, s62_50, tw_gf, hX, xco hX, x_stopped hX hS hK, e1, q, nI_1, ih (s + 1) (show s + 1 + d = 60 by omega), alF]
theorem x_all (hX : h.2.2 1 = some (xC wc hk lw st fl)) (hS : XS h tc tf ns sw sh sa) (hK : XK h 19 20 21 ft fo) {s : Nat} (hs : s < 60) (hw : ¬ wc = 0) : tw_b 62 0 [.ref 1, .int (nI s), tw_un] [] h = some (some (.int (alF (fun hour => spF ft fo hk (strF tc tf ns sh sa st hour 0)) s (60 - s))), h) := by
  have q1 : ¬ nI s < 0 := nI_pos (by omega)
  have q2 : nI s < 60 := nI_lt (b := 60) hs (by omega)
  simp [s62_0, s62_1, s62_4, s62_7, s62_9, s62_10, s62_11, s62_14, s62_17, s62_19, s62_20, s62_21, s62_23, s62_25, s62_28, s62_29, s62_30, s62_33, s62_34, s62_37, s62_40, s62_41, s62_42, s62_45, s62_48, s62_50, x_isHour, tw_bi_0, q1, q2, xco hX, x_hasNoTown hX, hw, x_all_loop hX hS hK (nI s) (60 - s) s (by omega)]
theorem x_all_no (hX : h.2.2 1 = some (xC wc hk lw st fl)) (hour : Int32) (hb : ¬ (¬ hour < 0 ∧ hour < 60) ∨ wc = 0) : tw_b 62 0 [.ref 1, .int hour, tw_un] [] h = some (some (.int (if ¬ hour < 0 ∧ hour < 60 then -3 else -2)), h) := by
  by_cases q : ¬ hour < 0 ∧ hour < 60
  · have q2 : wc = 0 := by rcases hb with z | z; exact absurd q z; exact z
    simp [s62_0, s62_1, s62_4, s62_7, s62_9, s62_10, s62_11, s62_14, s62_17, s62_19, s62_20, s62_21, s62_23, s62_25, s62_28, s62_29, s62_30, s62_33, s62_34, s62_37, s62_40, s62_41, s62_42, s62_45, s62_48, s62_50, x_isHour, tw_bi_0, q, xco hX, x_hasNoTown hX, q2]
  · simp only [s62_0, s62_1, s62_4, s62_7, s62_9, s62_10, s62_11, s62_14, s62_17, s62_19, s62_20, s62_21, s62_23, s62_25, s62_28, s62_29, s62_30, s62_33, s62_34, s62_37, s62_40, s62_41, s62_42, s62_45, s62_48, s62_50, x_isHour, Option.bind_some, Option.bind_none, Option.toList_some, Option.toList_none, List.cons_append, List.nil_append, tw_bi_0, decide_eq_false q, if_true, if_neg q]
end XQ
