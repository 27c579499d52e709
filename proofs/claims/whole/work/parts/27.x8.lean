/-! help, fewest, what it was -/
section XH
variable {h : tw_H} {wc hk lw st fl tc : Int32} {tf sw sh sa ft fo f rw rh ra : Nat → Int32} {ns nr : Nat} {g : Nat → Option Nat} {T : Nat → Int32}
def hpS (sp0 spv : Int32 → Int32) (now : Int32) : Nat → Nat → Int32 → Int32 → Int32 × Int32
  | _, 0, least, best => (least, best)
  | s, d + 1, least, best => if now - (bcF (sp0 (nI s)) - bcF (spv (nI s))) < least then hpS sp0 spv now (s + 1) d (now - (bcF (sp0 (nI s)) - bcF (spv (nI s)))) (nI s) else hpS sp0 spv now (s + 1) d least best
theorem x_help_loop (hX : h.2.2 1 = some (xC wc hk lw st fl)) (hS : XS h tc tf ns sw sh sa) (hK : XK h 19 20 21 ft fo) (v what now : Int32) : ∀ (d s : Nat) (least best : Int32) (v7 v8 : Value), s + d = 60 → tw_b 70 44 [.ref 1, .int v, .int what, .int now, .int least, .int best, .int (nI s), v7, v8] [] h = some (some (.int (let r := hpS (fun hour => spF ft fo hk (strF tc tf ns sh sa st hour 0)) (fun hour => spF ft fo hk (strF tc tf ns sh sa st hour v)) now s d least best; if what = 0 then r.2 else r.1)), h) := by
  intro d
  induction d with
  | zero =>
    intro s least best v7 v8 hd
    have e1 : ¬ nI s < 60 := nI_nlt (b := 60) (by omega) (by omega)
    rw [s70_44]
    by_cases q : what = 0 <;> simp [s70_0, s70_1, s70_4, s70_7, s70_8, s70_11, s70_12, s70_13, s70_16, s70_18, s70_19, s70_20, s70_23, s70_26, s70_28, s70_29, s70_30, s70_33, s70_34, s70_35, s70_37, s70_39, s70_41, s70_42, s70_46, s70_48, s70_51, s70_52, s70_55, s70_56, s70_59, s70_60, s70_63, s70_64, s70_67, s70_69, s70_70, s70_73, s70_76, s70_78, s70_79, s70_80, s70_83, s70_85, s70_88, s70_91, s70_92, s70_95, s70_97, s70_98, s70_99, s70_100, s70_103, s70_104, s70_106, s70_107, s70_109, s70_110, s70_112, s70_115, s70_116, s70_118, s70_119, s70_121, s70_123, s70_125, s70_128, s70_131, s70_132, s70_135, s70_137, s70_140, s70_142, e1, hpS, q]
  | succ d ih =>
    intro s least best v7 v8 hd
    have e1 : nI s < 60 := nI_lt (b := 60) (by omega) (by omega)
    obtain ⟨A, hA⟩ : ∃ A, A = bcF (spF ft fo hk (strF tc tf ns sh sa st (nI s) 0)) := ⟨_, rfl⟩
    obtain ⟨B, hB⟩ : ∃ B, B = bcF (spF ft fo hk (strF tc tf ns sh sa st (nI s) v)) := ⟨_, rfl⟩
    have hB' : bcF (hk &&& ~~~goF ft fo hk (strF tc tf ns sh sa st (nI s) v)) = B := by rw [hB, spF]; simp
    rw [s70_44]
    by_cases q : now - (A - B) < least
    · simp [s70_0, s70_1, s70_4, s70_7, s70_8, s70_11, s70_12, s70_13, s70_16, s70_18, s70_19, s70_20, s70_23, s70_26, s70_28, s70_29, s70_30, s70_33, s70_34, s70_35, s70_37, s70_39, s70_41, s70_42, s70_46, s70_48, s70_51, s70_52, s70_55, s70_56, s70_59, s70_60, s70_63, s70_64, s70_67, s70_69, s70_70, s70_73, s70_76, s70_78, s70_79, s70_80, s70_83, s70_85, s70_88, s70_91, s70_92, s70_95, s70_97, s70_98, s70_99, s70_100, s70_103, s70_104, s70_106, s70_107, s70_109, s70_110, s70_112, s70_115, s70_116, s70_118, s70_119, s70_121, s70_123, s70_125, s70_128, s70_131, s70_132, s70_135, s70_137, s70_140, s70_142, tw_gf, hX, xco hX, hS.co, hK.co (show 19 ≠ 0 by decide), x_strX hS, x_goX hK (show 19 ≠ 0 by decide), x_stopped hX hS hK, x_bitCount, e1, ← hA, hB', q, nI_1, ih (s + 1) _ _ _ _ (show s + 1 + d = 60 by omega), hpS, ← hB]
    · simp [s70_0, s70_1, s70_4, s70_7, s70_8, s70_11, s70_12, s70_13, s70_16, s70_18, s70_19, s70_20, s70_23, s70_26, s70_28, s70_29, s70_30, s70_33, s70_34, s70_35, s70_37, s70_39, s70_41, s70_42, s70_46, s70_48, s70_51, s70_52, s70_55, s70_56, s70_59, s70_60, s70_63, s70_64, s70_67, s70_69, s70_70, s70_73, s70_76, s70_78, s70_79, s70_80, s70_83, s70_85, s70_88, s70_91, s70_92, s70_95, s70_97, s70_98, s70_99, s70_100, s70_103, s70_104, s70_106, s70_107, s70_109, s70_110, s70_112, s70_115, s70_116, s70_118, s70_119, s70_121, s70_123, s70_125, s70_128, s70_131, s70_132, s70_135, s70_137, s70_140, s70_142, tw_gf, hX, xco hX, hS.co, hK.co (show 19 ≠ 0 by decide), x_strX hS, x_goX hK (show 19 ≠ 0 by decide), x_stopped hX hS hK, x_bitCount, e1, ← hA, hB', q, nI_1, ih (s + 1) _ _ _ _ (show s + 1 + d = 60 by omega), hpS, ← hB]
def hpF (sp0 spv : Int32 → Int32) (what : Int32) : Int32 := let now := lgS sp0 0 60 0; let r := hpS sp0 spv now 0 60 now (-9); if what = 0 then r.2 else r.1
theorem x_help (hX : h.2.2 1 = some (xC wc hk lw st fl)) (hS : XS h tc tf ns sw sh sa) (hK : XK h 19 20 21 ft fo) (v what : Int32) (h1 : ¬ v < -59 ∧ ¬ 59 < v) (h2 : ¬ what < 0 ∧ ¬ 1 < what) (hw : ¬ wc = 0) : tw_b 70 0 [.ref 1, .int v, .int what, tw_un, tw_un, tw_un, tw_un, tw_un, tw_un] [] h = some (some (.int (hpF (fun hour => spF ft fo hk (strF tc tf ns sh sa st hour 0)) (fun hour => spF ft fo hk (strF tc tf ns sh sa st hour v)) what)), h) := by
  have hl := x_help_loop hX hS hK v what (lgS (fun hour => spF ft fo hk (strF tc tf ns sh sa st hour 0)) 0 60 0) 60 0 (lgS (fun hour => spF ft fo hk (strF tc tf ns sh sa st hour 0)) 0 60 0) (-9) tw_un tw_un (by omega)
  rw [nI_0] at hl
  simp only [s70_0, s70_1, s70_4, s70_7, s70_8, s70_11, s70_12, s70_13, s70_16, s70_18, s70_19, s70_20, s70_23, s70_26, s70_28, s70_29, s70_30, s70_33, s70_34, s70_35, s70_37, s70_39, s70_41, s70_42, s70_46, s70_48, s70_51, s70_52, s70_55, s70_56, s70_59, s70_60, s70_63, s70_64, s70_67, s70_69, s70_70, s70_73, s70_76, s70_78, s70_79, s70_80, s70_83, s70_85, s70_88, s70_91, s70_92, s70_95, s70_97, s70_98, s70_99, s70_100, s70_103, s70_104, s70_106, s70_107, s70_109, s70_110, s70_112, s70_115, s70_116, s70_118, s70_119, s70_121, s70_123, s70_125, s70_128, s70_131, s70_132, s70_135, s70_137, s70_140, s70_142, x_isForce, decide_eq_true h1, decide_eq_false h2.1, h2.1, h2.2, Option.bind_some, Option.bind_none, Option.toList_some, Option.toList_none, List.cons_append, List.nil_append, tw_bi_0, if_false, xco hX, x_hasNoTown hX, decide_eq_false hw, x_together hX hS hK, hl, hpF, Bool.true_eq_false]
  rfl
theorem x_help_no (hX : h.2.2 1 = some (xC wc hk lw st fl)) (v what : Int32) (hb : ¬ ((¬ v < -59 ∧ ¬ 59 < v) ∧ (¬ what < 0 ∧ ¬ 1 < what)) ∨ wc = 0) : tw_b 70 0 [.ref 1, .int v, .int what, tw_un, tw_un, tw_un, tw_un, tw_un, tw_un] [] h = some (some (.int (if (¬ v < -59 ∧ ¬ 59 < v) ∧ (¬ what < 0 ∧ ¬ 1 < what) then -3 else -2)), h) := by
  by_cases q : ¬ v < -59 ∧ ¬ 59 < v
  · by_cases q3 : what < 0
    · have : ¬ ((¬ v < -59 ∧ ¬ 59 < v) ∧ (¬ what < 0 ∧ ¬ 1 < what)) := fun z => z.2.1 q3
      rw [if_neg this]
      simp only [s70_0, s70_1, s70_4, s70_7, s70_8, s70_11, s70_12, s70_13, s70_16, s70_18, s70_19, s70_20, s70_23, s70_26, s70_28, s70_29, s70_30, s70_33, s70_34, s70_35, s70_37, s70_39, s70_41, s70_42, s70_46, s70_48, s70_51, s70_52, s70_55, s70_56, s70_59, s70_60, s70_63, s70_64, s70_67, s70_69, s70_70, s70_73, s70_76, s70_78, s70_79, s70_80, s70_83, s70_85, s70_88, s70_91, s70_92, s70_95, s70_97, s70_98, s70_99, s70_100, s70_103, s70_104, s70_106, s70_107, s70_109, s70_110, s70_112, s70_115, s70_116, s70_118, s70_119, s70_121, s70_123, s70_125, s70_128, s70_131, s70_132, s70_135, s70_137, s70_140, s70_142, x_isForce, decide_eq_true q, q3, Option.bind_some, Option.bind_none, Option.toList_some, Option.toList_none, List.cons_append, List.nil_append, tw_bi_0, if_true, if_false, Bool.true_eq_false]
    · by_cases q4 : 1 < what
      · have : ¬ ((¬ v < -59 ∧ ¬ 59 < v) ∧ (¬ what < 0 ∧ ¬ 1 < what)) := fun z => z.2.2 q4
        rw [if_neg this]
        simp only [s70_0, s70_1, s70_4, s70_7, s70_8, s70_11, s70_12, s70_13, s70_16, s70_18, s70_19, s70_20, s70_23, s70_26, s70_28, s70_29, s70_30, s70_33, s70_34, s70_35, s70_37, s70_39, s70_41, s70_42, s70_46, s70_48, s70_51, s70_52, s70_55, s70_56, s70_59, s70_60, s70_63, s70_64, s70_67, s70_69, s70_70, s70_73, s70_76, s70_78, s70_79, s70_80, s70_83, s70_85, s70_88, s70_91, s70_92, s70_95, s70_97, s70_98, s70_99, s70_100, s70_103, s70_104, s70_106, s70_107, s70_109, s70_110, s70_112, s70_115, s70_116, s70_118, s70_119, s70_121, s70_123, s70_125, s70_128, s70_131, s70_132, s70_135, s70_137, s70_140, s70_142, x_isForce, decide_eq_true q, q3, q4, Option.bind_some, Option.bind_none, Option.toList_some, Option.toList_none, List.cons_append, List.nil_append, tw_bi_0, if_true, if_false, Bool.true_eq_false]
      · have q2 : wc = 0 := by rcases hb with z | z; exact absurd ⟨q, q3, q4⟩ z; exact z
        rw [if_pos ⟨q, q3, q4⟩]
        simp only [s70_0, s70_1, s70_4, s70_7, s70_8, s70_11, s70_12, s70_13, s70_16, s70_18, s70_19, s70_20, s70_23, s70_26, s70_28, s70_29, s70_30, s70_33, s70_34, s70_35, s70_37, s70_39, s70_41, s70_42, s70_46, s70_48, s70_51, s70_52, s70_55, s70_56, s70_59, s70_60, s70_63, s70_64, s70_67, s70_69, s70_70, s70_73, s70_76, s70_78, s70_79, s70_80, s70_83, s70_85, s70_88, s70_91, s70_92, s70_95, s70_97, s70_98, s70_99, s70_100, s70_103, s70_104, s70_106, s70_107, s70_109, s70_110, s70_112, s70_115, s70_116, s70_118, s70_119, s70_121, s70_123, s70_125, s70_128, s70_131, s70_132, s70_135, s70_137, s70_140, s70_142, x_isForce, decide_eq_true q, q3, q4, Option.bind_some, Option.bind_none, Option.toList_some, Option.toList_none, List.cons_append, List.nil_append, tw_bi_0, if_true, if_false, xco hX, x_hasNoTown hX, decide_eq_true q2, Bool.true_eq_false]
  · have : ¬ ((¬ v < -59 ∧ ¬ 59 < v) ∧ (¬ what < 0 ∧ ¬ 1 < what)) := fun z => q z.1
    rw [if_neg this]
    simp only [s70_0, s70_1, s70_4, s70_7, s70_8, s70_11, s70_12, s70_13, s70_16, s70_18, s70_19, s70_20, s70_23, s70_26, s70_28, s70_29, s70_30, s70_33, s70_34, s70_35, s70_37, s70_39, s70_41, s70_42, s70_46, s70_48, s70_51, s70_52, s70_55, s70_56, s70_59, s70_60, s70_63, s70_64, s70_67, s70_69, s70_70, s70_73, s70_76, s70_78, s70_79, s70_80, s70_83, s70_85, s70_88, s70_91, s70_92, s70_95, s70_97, s70_98, s70_99, s70_100, s70_103, s70_104, s70_106, s70_107, s70_109, s70_110, s70_112, s70_115, s70_116, s70_118, s70_119, s70_121, s70_123, s70_125, s70_128, s70_131, s70_132, s70_135, s70_137, s70_140, s70_142, x_isForce, Option.bind_some, Option.bind_none, Option.toList_some, Option.toList_none, List.cons_append, List.nil_append, tw_bi_0, decide_eq_false q, if_true]
def fwS (ft fo : Nat → Int32) (hk others weak k : Int32) : Nat → Nat → Int32 → Int32 → Int32
  | _, 0, best, _ => best
  | s, d + 1, best, size => if (nI s &&& (others ^^^ -1) = 0 ∧ bcF (nI s) < size) ∧ hasB (goF ft fo (hk &&& (nI s ^^^ -1)) weak) k = true then fwS ft fo hk others weak k (s + 1) d (nI s) (bcF (nI s)) else fwS ft fo hk others weak k (s + 1) d best size
theorem x_fewest_loop (hX : h.2.2 1 = some (xC wc hk lw st fl)) (hK : XK h 19 20 21 ft fo) (k a e weak : Int32) {m : Nat} (hm : m < 2 ^ 30) : ∀ (d s : Nat) (best size : Int32) (v9 : Value), s + d = m + 1 → tw_b 67 78 [.ref 1, .int k, .int a, .int e, .int weak, .int (nI m), .int best, .int size, .int (nI s), v9] [] h = some (some (.int (fwS ft fo hk (nI m) weak k s d best size)), h) := by
  intro d
  induction d with
  | zero =>
    intro s best size v9 hd
    have e1 : nI m < nI s := nI_lt (by omega) (by omega)
    rw [s67_78]
    simp [s67_0, s67_1, s67_2, s67_5, s67_5n, s67_8, s67_9, s67_10, s67_11, s67_14, s67_17, s67_18, s67_21, s67_24, s67_25, s67_26, s67_29, s67_31, s67_32, s67_33, s67_36, s67_37, s67_40, s67_43, s67_45, s67_46, s67_47, s67_48, s67_49, s67_52, s67_54, s67_55, s67_58, s67_59, s67_62, s67_63, s67_64, s67_65, s67_67, s67_69, s67_71, s67_73, s67_75, s67_76, s67_80, s67_82, s67_85, s67_87, s67_89, s67_90, s67_91, s67_92, s67_95, s67_97, s67_100, s67_102, s67_105, s67_106, s67_109, s67_110, s67_112, s67_114, s67_117, s67_118, s67_121, s67_122, s67_125, s67_127, s67_128, s67_129, s67_130, s67_132, s67_135, s67_136, s67_139, s67_142, s67_144, s67_146, s67_148, s67_151, s67_153, s67_156, s67_159, s67_161, e1, fwS]
  | succ d ih =>
    intro s best size v9 hd
    have e1 : ¬ nI m < nI s := nI_nlt (by omega) (by omega)
    rw [s67_78]
    by_cases q : nI s &&& ~~~nI m = 0
    · by_cases q2 : bcF (nI s) < size
      · by_cases q3 : hasB (goF ft fo (hk &&& ~~~nI s) weak) k = true
        · simp [s67_0, s67_1, s67_2, s67_5, s67_5n, s67_8, s67_9, s67_10, s67_11, s67_14, s67_17, s67_18, s67_21, s67_24, s67_25, s67_26, s67_29, s67_31, s67_32, s67_33, s67_36, s67_37, s67_40, s67_43, s67_45, s67_46, s67_47, s67_48, s67_49, s67_52, s67_54, s67_55, s67_58, s67_59, s67_62, s67_63, s67_64, s67_65, s67_67, s67_69, s67_71, s67_73, s67_75, s67_76, s67_80, s67_82, s67_85, s67_87, s67_89, s67_90, s67_91, s67_92, s67_95, s67_97, s67_100, s67_102, s67_105, s67_106, s67_109, s67_110, s67_112, s67_114, s67_117, s67_118, s67_121, s67_122, s67_125, s67_127, s67_128, s67_129, s67_130, s67_132, s67_135, s67_136, s67_139, s67_142, s67_144, s67_146, s67_148, s67_151, s67_153, s67_156, s67_159, s67_161, tw_gf, hX, hK.co (show 19 ≠ 0 by decide), x_goX hK (show 19 ≠ 0 by decide), x_bitCount, x_has, tw_bi_0, e1, q, q2, q3, nI_1, ih (s + 1) _ _ _ (show s + 1 + d = m + 1 by omega), fwS]
        · simp [s67_0, s67_1, s67_2, s67_5, s67_5n, s67_8, s67_9, s67_10, s67_11, s67_14, s67_17, s67_18, s67_21, s67_24, s67_25, s67_26, s67_29, s67_31, s67_32, s67_33, s67_36, s67_37, s67_40, s67_43, s67_45, s67_46, s67_47, s67_48, s67_49, s67_52, s67_54, s67_55, s67_58, s67_59, s67_62, s67_63, s67_64, s67_65, s67_67, s67_69, s67_71, s67_73, s67_75, s67_76, s67_80, s67_82, s67_85, s67_87, s67_89, s67_90, s67_91, s67_92, s67_95, s67_97, s67_100, s67_102, s67_105, s67_106, s67_109, s67_110, s67_112, s67_114, s67_117, s67_118, s67_121, s67_122, s67_125, s67_127, s67_128, s67_129, s67_130, s67_132, s67_135, s67_136, s67_139, s67_142, s67_144, s67_146, s67_148, s67_151, s67_153, s67_156, s67_159, s67_161, tw_gf, hX, hK.co (show 19 ≠ 0 by decide), x_goX hK (show 19 ≠ 0 by decide), x_bitCount, x_has, tw_bi_0, e1, q, q2, q3, nI_1, ih (s + 1) _ _ _ (show s + 1 + d = m + 1 by omega), fwS]
      · simp [s67_0, s67_1, s67_2, s67_5, s67_5n, s67_8, s67_9, s67_10, s67_11, s67_14, s67_17, s67_18, s67_21, s67_24, s67_25, s67_26, s67_29, s67_31, s67_32, s67_33, s67_36, s67_37, s67_40, s67_43, s67_45, s67_46, s67_47, s67_48, s67_49, s67_52, s67_54, s67_55, s67_58, s67_59, s67_62, s67_63, s67_64, s67_65, s67_67, s67_69, s67_71, s67_73, s67_75, s67_76, s67_80, s67_82, s67_85, s67_87, s67_89, s67_90, s67_91, s67_92, s67_95, s67_97, s67_100, s67_102, s67_105, s67_106, s67_109, s67_110, s67_112, s67_114, s67_117, s67_118, s67_121, s67_122, s67_125, s67_127, s67_128, s67_129, s67_130, s67_132, s67_135, s67_136, s67_139, s67_142, s67_144, s67_146, s67_148, s67_151, s67_153, s67_156, s67_159, s67_161, tw_gf, hX, hK.co (show 19 ≠ 0 by decide), x_goX hK (show 19 ≠ 0 by decide), x_bitCount, x_has, tw_bi_0, e1, q, q2, nI_1, ih (s + 1) _ _ _ (show s + 1 + d = m + 1 by omega), fwS]
    · simp [s67_0, s67_1, s67_2, s67_5, s67_5n, s67_8, s67_9, s67_10, s67_11, s67_14, s67_17, s67_18, s67_21, s67_24, s67_25, s67_26, s67_29, s67_31, s67_32, s67_33, s67_36, s67_37, s67_40, s67_43, s67_45, s67_46, s67_47, s67_48, s67_49, s67_52, s67_54, s67_55, s67_58, s67_59, s67_62, s67_63, s67_64, s67_65, s67_67, s67_69, s67_71, s67_73, s67_75, s67_76, s67_80, s67_82, s67_85, s67_87, s67_89, s67_90, s67_91, s67_92, s67_95, s67_97, s67_100, s67_102, s67_105, s67_106, s67_109, s67_110, s67_112, s67_114, s67_117, s67_118, s67_121, s67_122, s67_125, s67_127, s67_128, s67_129, s67_130, s67_132, s67_135, s67_136, s67_139, s67_142, s67_144, s67_146, s67_148, s67_151, s67_153, s67_156, s67_159, s67_161, tw_gf, hX, hK.co (show 19 ≠ 0 by decide), x_goX hK (show 19 ≠ 0 by decide), x_bitCount, x_has, tw_bi_0, e1, q, nI_1, ih (s + 1) _ _ _ (show s + 1 + d = m + 1 by omega), fwS]
theorem x_fewest (hX : h.2.2 1 = some (xC wc hk lw st fl)) (hS : XS h tc tf ns sw sh sa) (hK : XK h 19 20 21 ft fo) (hW : h.2.2 18 = some (rC 2 8 g)) {k : Int32} {w : Nat} (hwk : wkV g k = .ref w) {a e : Nat} (ha : a ≤ e) (he : e < 60) (hh : hasB hk k = true) {m : Nat} (hm : m < 2 ^ 30) (ho : hk &&& (bitI k ^^^ -1) = nI m) : tw_b 67 0 [.ref 1, .int k, .int (nI a), .int (nI e), tw_un, tw_un, tw_un, tw_un, tw_un, tw_un] [] h = some (some (.int (fwS ft fo hk (nI m) (wkF (fun hour => strF tc tf ns sh sa st hour 0) a e) k 0 (m + 1) (-9) 8)), h) := by
  have hl := x_fewest_loop hX hK k (nI a) (nI e) (wkF (fun hour => strF tc tf ns sh sa st hour 0) a e) hm (m + 1) 0 (-9) 8 tw_un (by omega)
  rw [nI_0] at hl
  have a1 : ¬ nI a < 0 := nI_pos (by omega)
  have a2 : nI a < 60 := nI_lt (b := 60) (by omega) (by omega)
  have b1 : ¬ nI e < 0 := nI_pos (by omega)
  have b2 : nI e < 60 := nI_lt (b := 60) (by omega) (by omega)
  have c1 : ¬ nI e < nI a := nI_nlt ha (by omega)
  have hw := x_workOf hX hW k
  rw [hwk] at hw
  have q1 : decide (¬ nI a < 0 ∧ nI a < 60) = true := decide_eq_true ⟨a1, a2⟩
  have q2 : decide (¬ nI e < 0 ∧ nI e < 60) = true := decide_eq_true ⟨b1, b2⟩
  have ho' : hk &&& ~~~bitI k = nI m := by rw [← ho]; simp
  simp [s67_0, s67_1, s67_2, s67_5, s67_5n, s67_8, s67_9, s67_10, s67_11, s67_14, s67_17, s67_18, s67_21, s67_24, s67_25, s67_26, s67_29, s67_31, s67_32, s67_33, s67_36, s67_37, s67_40, s67_43, s67_45, s67_46, s67_47, s67_48, s67_49, s67_52, s67_54, s67_55, s67_58, s67_59, s67_62, s67_63, s67_64, s67_65, s67_67, s67_69, s67_71, s67_73, s67_75, s67_76, s67_80, s67_82, s67_85, s67_87, s67_89, s67_90, s67_91, s67_92, s67_95, s67_97, s67_100, s67_102, s67_105, s67_106, s67_109, s67_110, s67_112, s67_114, s67_117, s67_118, s67_121, s67_122, s67_125, s67_127, s67_128, s67_129, s67_130, s67_132, s67_135, s67_136, s67_139, s67_142, s67_144, s67_146, s67_148, s67_151, s67_153, s67_156, s67_159, s67_161, hw, xco hX, x_isHour, a1, a2, b1, b2, c1, tw_bi_0, tw_gf, hX, x_has, hh, x_weakest hX hS ha he, x_bit, ho', hl]
theorem x_fewest_u (hX : h.2.2 1 = some (xC wc hk lw st fl)) (hW : h.2.2 18 = some (rC 2 8 g)) {k : Int32} (hwk : wkV g k = .null) (a e : Int32) : tw_b 67 0 [.ref 1, .int k, .int a, .int e, tw_un, tw_un, tw_un, tw_un, tw_un, tw_un] [] h = some (some (.int (-1)), h) := by
  have hw := x_workOf hX hW k
  rw [hwk] at hw
  simp [s67_0, s67_1, s67_2, s67_5, s67_5n, s67_8, s67_9, s67_10, s67_11, s67_14, s67_17, s67_18, s67_21, s67_24, s67_25, s67_26, s67_29, s67_31, s67_32, s67_33, s67_36, s67_37, s67_40, s67_43, s67_45, s67_46, s67_47, s67_48, s67_49, s67_52, s67_54, s67_55, s67_58, s67_59, s67_62, s67_63, s67_64, s67_65, s67_67, s67_69, s67_71, s67_73, s67_75, s67_76, s67_80, s67_82, s67_85, s67_87, s67_89, s67_90, s67_91, s67_92, s67_95, s67_97, s67_100, s67_102, s67_105, s67_106, s67_109, s67_110, s67_112, s67_114, s67_117, s67_118, s67_121, s67_122, s67_125, s67_127, s67_128, s67_129, s67_130, s67_132, s67_135, s67_136, s67_139, s67_142, s67_144, s67_146, s67_148, s67_151, s67_153, s67_156, s67_159, s67_161, hw, xco hX]
theorem x_fewest_o (hX : h.2.2 1 = some (xC wc hk lw st fl)) (hW : h.2.2 18 = some (rC 2 8 g)) {k : Int32} {w : Nat} (hwk : wkV g k = .ref w) (a e : Int32) (hb : ¬ ((¬ a < 0 ∧ a < 60) ∧ (¬ e < 0 ∧ e < 60) ∧ ¬ e < a)) : tw_b 67 0 [.ref 1, .int k, .int a, .int e, tw_un, tw_un, tw_un, tw_un, tw_un, tw_un] [] h = some (some (.int (-2)), h) := by
  have hw := x_workOf hX hW k
  rw [hwk] at hw
  by_cases q1 : ¬ a < 0 ∧ a < 60
  · by_cases q2 : ¬ e < 0 ∧ e < 60
    · have q3 : e < a := by
        by_cases q : e < a
        · exact q
        · exact absurd ⟨q1, q2, q⟩ hb
      simp only [s67_0, s67_1, s67_2, s67_5, s67_5n, s67_8, s67_9, s67_10, s67_11, s67_14, s67_17, s67_18, s67_21, s67_24, s67_25, s67_26, s67_29, s67_31, s67_32, s67_33, s67_36, s67_37, s67_40, s67_43, s67_45, s67_46, s67_47, s67_48, s67_49, s67_52, s67_54, s67_55, s67_58, s67_59, s67_62, s67_63, s67_64, s67_65, s67_67, s67_69, s67_71, s67_73, s67_75, s67_76, s67_80, s67_82, s67_85, s67_87, s67_89, s67_90, s67_91, s67_92, s67_95, s67_97, s67_100, s67_102, s67_105, s67_106, s67_109, s67_110, s67_112, s67_114, s67_117, s67_118, s67_121, s67_122, s67_125, s67_127, s67_128, s67_129, s67_130, s67_132, s67_135, s67_136, s67_139, s67_142, s67_144, s67_146, s67_148, s67_151, s67_153, s67_156, s67_159, s67_161, hw, xco hX, x_isHour, decide_eq_true q1, decide_eq_true q2, q3, Option.bind_some, Option.bind_none, Option.toList_some, Option.toList_none, List.cons_append, List.nil_append, tw_bi_0, if_true, if_false, Bool.true_eq_false]
    · simp only [s67_0, s67_1, s67_2, s67_5, s67_5n, s67_8, s67_9, s67_10, s67_11, s67_14, s67_17, s67_18, s67_21, s67_24, s67_25, s67_26, s67_29, s67_31, s67_32, s67_33, s67_36, s67_37, s67_40, s67_43, s67_45, s67_46, s67_47, s67_48, s67_49, s67_52, s67_54, s67_55, s67_58, s67_59, s67_62, s67_63, s67_64, s67_65, s67_67, s67_69, s67_71, s67_73, s67_75, s67_76, s67_80, s67_82, s67_85, s67_87, s67_89, s67_90, s67_91, s67_92, s67_95, s67_97, s67_100, s67_102, s67_105, s67_106, s67_109, s67_110, s67_112, s67_114, s67_117, s67_118, s67_121, s67_122, s67_125, s67_127, s67_128, s67_129, s67_130, s67_132, s67_135, s67_136, s67_139, s67_142, s67_144, s67_146, s67_148, s67_151, s67_153, s67_156, s67_159, s67_161, hw, xco hX, x_isHour, decide_eq_true q1, decide_eq_false q2, Option.bind_some, Option.bind_none, Option.toList_some, Option.toList_none, List.cons_append, List.nil_append, tw_bi_0, if_true, if_false, Bool.true_eq_false]
  · simp only [s67_0, s67_1, s67_2, s67_5, s67_5n, s67_8, s67_9, s67_10, s67_11, s67_14, s67_17, s67_18, s67_21, s67_24, s67_25, s67_26, s67_29, s67_31, s67_32, s67_33, s67_36, s67_37, s67_40, s67_43, s67_45, s67_46, s67_47, s67_48, s67_49, s67_52, s67_54, s67_55, s67_58, s67_59, s67_62, s67_63, s67_64, s67_65, s67_67, s67_69, s67_71, s67_73, s67_75, s67_76, s67_80, s67_82, s67_85, s67_87, s67_89, s67_90, s67_91, s67_92, s67_95, s67_97, s67_100, s67_102, s67_105, s67_106, s67_109, s67_110, s67_112, s67_114, s67_117, s67_118, s67_121, s67_122, s67_125, s67_127, s67_128, s67_129, s67_130, s67_132, s67_135, s67_136, s67_139, s67_142, s67_144, s67_146, s67_148, s67_151, s67_153, s67_156, s67_159, s67_161, hw, xco hX, x_isHour, decide_eq_false q1, Option.bind_some, Option.bind_none, Option.toList_some, Option.toList_none, List.cons_append, List.nil_append, tw_bi_0, if_true, if_false, Bool.true_eq_false]
theorem x_fewest_n (hX : h.2.2 1 = some (xC wc hk lw st fl)) (hW : h.2.2 18 = some (rC 2 8 g)) {k : Int32} {w : Nat} (hwk : wkV g k = .ref w) {a e : Int32} (hb : (¬ a < 0 ∧ a < 60) ∧ (¬ e < 0 ∧ e < 60) ∧ ¬ e < a) (hh : ¬ hasB hk k = true) : tw_b 67 0 [.ref 1, .int k, .int a, .int e, tw_un, tw_un, tw_un, tw_un, tw_un, tw_un] [] h = some (some (.int (-9)), h) := by
  have hw := x_workOf hX hW k
  rw [hwk] at hw
  have hh' : hasB hk k = false := by simpa using hh
  simp [s67_0, s67_1, s67_2, s67_5, s67_5n, s67_8, s67_9, s67_10, s67_11, s67_14, s67_17, s67_18, s67_21, s67_24, s67_25, s67_26, s67_29, s67_31, s67_32, s67_33, s67_36, s67_37, s67_40, s67_43, s67_45, s67_46, s67_47, s67_48, s67_49, s67_52, s67_54, s67_55, s67_58, s67_59, s67_62, s67_63, s67_64, s67_65, s67_67, s67_69, s67_71, s67_73, s67_75, s67_76, s67_80, s67_82, s67_85, s67_87, s67_89, s67_90, s67_91, s67_92, s67_95, s67_97, s67_100, s67_102, s67_105, s67_106, s67_109, s67_110, s67_112, s67_114, s67_117, s67_118, s67_121, s67_122, s67_125, s67_127, s67_128, s67_129, s67_130, s67_132, s67_135, s67_136, s67_139, s67_142, s67_144, s67_146, s67_148, s67_151, s67_153, s67_156, s67_159, s67_161, hw, xco hX, x_isHour, hb.1, hb.2.1, hb.2.2, tw_bi_0, tw_gf, hX, x_has, hh']
/-- a set told bit by bit -/
def seS (p : Nat → Bool) : Nat → Nat → Int32 → Int32
  | _, 0, acc => acc
  | s, d + 1, acc => seS p (s + 1) d (acc ||| if p s = true then bitI (nI s) else 0)
theorem x_fitsZ {o tk od : Nat} (hX : h.2.2 1 = some (xC wc hk lw st fl)) (hS : XS h tc tf ns sw sh sa) (h0 : o ≠ 0) (ho : o ≠ 26 ∧ tk ≠ 26 ∧ od ≠ 26) (hK : XK h o tk od ft fo) (hR : XR h nr rw rh ra) (hL : XL h f) (first set : Int32) : ∃ f', tw_b 80 0 [.ref 1, .ref o, .int first, .int set, tw_un] [] h = some (some (.int (tw_bi (ftZ (fun hour => spF ft fo set (strF tc tf ns sh sa first hour 0)) rw rh ra nr))), tw_set h 26 (iC 8 f')) := by
  rw [← ftF_ftZ _ _ _ _ _ f]
  exact x_fits hX hS h0 ho hK hR hL first set
theorem x_starts_loop {nt : Nat} (hX : h.2.2 1 = some (xC wc hk lw st fl)) (hS : XS h (nI nt) tf ns sw sh sa) (hnt : nt < 2 ^ 30) (hK : XK h 19 20 21 ft fo) (hR : XR h nr rw rh ra) {f0 : Nat → Int32} (hL : XL h f0) : ∀ (d s : Nat) (acc : Int32) (f : Nat → Int32), s + d = nt → ∃ f', tw_b 79 14 [.ref 1, .int acc, .int (nI s)] [] (tw_set h 26 (iC 8 f)) = some (some (.int (seS (fun v => ftZ (fun hour => spF ft fo hk (strF (nI nt) tf ns sh sa (nI v) hour 0)) rw rh ra nr) s d acc)), tw_set h 26 (iC 8 f')) := by
  intro d
  induction d with
  | zero =>
    intro s acc f hd
    have e1 : ¬ nI s < nI nt := nI_nlt (by omega) (by omega)
    refine ⟨f, ?_⟩
    rw [s79_14]
    simp [s79_0, s79_1, s79_4, s79_7, s79_9, s79_10, s79_11, s79_12, s79_13, s79_15, s79_16, s79_19, s79_22, s79_25, s79_26, s79_27, s79_28, s79_31, s79_32, s79_33, s79_36, s79_39, s79_42, s79_43, s79_46, s79_49, s79_50, s79_51, s79_52, s79_55, s79_58, s79_59, tw_gf, tw_sg, hX, hS.1, e1, seS]
  | succ d ih =>
    intro s acc f hd
    have e1 : nI s < nI nt := nI_lt (by omega) (by omega)
    obtain ⟨H, hH⟩ : ∃ H, H = tw_set h 26 (iC 8 f) := ⟨_, rfl⟩
    have gX : H.2.2 1 = some (xC wc hk lw st fl) := by rw [hH, tw_sg, if_neg (by decide)]; exact hX
    have gS : XS H (nI nt) tf ns sw sh sa := by rw [hH]; exact hS.set (by decide)
    have gK : XK H 19 20 21 ft fo := by rw [hH]; exact hK.set (by decide)
    have gL : XL H f := by rw [hH]; exact hL.put
    have gR : XR H nr rw rh ra := by rw [hH]; exact hR.set (by decide)
    obtain ⟨f1, ef⟩ := x_fitsZ gX gS (by decide) (by decide) gK gR gL (nI s) hk
    rw [show tw_set H 26 (iC 8 f1) = tw_set h 26 (iC 8 f1) by rw [hH, tw_ss]] at ef
    rw [← hH, s79_14]
    by_cases q : ftZ (fun hour => spF ft fo hk (strF (nI nt) tf ns sh sa (nI s) hour 0)) rw rh ra nr = true
    · obtain ⟨f', ih'⟩ := ih (s + 1) (acc ||| bitI (nI s)) f1 (by omega)
      refine ⟨f', ?_⟩
      simp [s79_0, s79_1, s79_4, s79_7, s79_9, s79_10, s79_11, s79_12, s79_13, s79_15, s79_16, s79_19, s79_22, s79_25, s79_26, s79_27, s79_28, s79_31, s79_32, s79_33, s79_36, s79_39, s79_42, s79_43, s79_46, s79_49, s79_50, s79_51, s79_52, s79_55, s79_58, s79_59, tw_gf, gX, gS.1, e1, xco gX, ef, q, tw_bi_0, x_bit, nI_1, ih', seS]
    · obtain ⟨f', ih'⟩ := ih (s + 1) acc f1 (by omega)
      refine ⟨f', ?_⟩
      simp [s79_0, s79_1, s79_4, s79_7, s79_9, s79_10, s79_11, s79_12, s79_13, s79_15, s79_16, s79_19, s79_22, s79_25, s79_26, s79_27, s79_28, s79_31, s79_32, s79_33, s79_36, s79_39, s79_42, s79_43, s79_46, s79_49, s79_50, s79_51, s79_52, s79_55, s79_58, s79_59, tw_gf, gX, gS.1, e1, xco gX, ef, q, tw_bi_0, x_bit, nI_1, ih', seS]
theorem x_starts {nt : Nat} (hX : h.2.2 1 = some (xC wc hk lw st fl)) (hS : XS h (nI nt) tf ns sw sh sa) (hnt : nt < 2 ^ 30) (hK : XK h 19 20 21 ft fo) (hR : XR h nr rw rh ra) (hL : XL h f) (hw : ¬ wc = 0) : ∃ f', tw_b 79 0 [.ref 1, tw_un, tw_un] [] h = some (some (.int (seS (fun v => ftZ (fun hour => spF ft fo hk (strF (nI nt) tf ns sh sa (nI v) hour 0)) rw rh ra nr) 0 nt 0)), tw_set h 26 (iC 8 f')) := by
  obtain ⟨f', hl⟩ := x_starts_loop hX hS hnt hK hR hL nt 0 0 f (by omega)
  rw [nI_0, tw_si h hL.2] at hl
  refine ⟨f', ?_⟩
  simp [s79_0, s79_1, s79_4, s79_7, s79_9, s79_10, s79_11, s79_12, s79_13, s79_15, s79_16, s79_19, s79_22, s79_25, s79_26, s79_27, s79_28, s79_31, s79_32, s79_33, s79_36, s79_39, s79_42, s79_43, s79_46, s79_49, s79_50, s79_51, s79_52, s79_55, s79_58, s79_59, xco hX, x_hasNoTown hX, hw, tw_bi_0, hl]
theorem x_freed_loop {nw : Nat} (hX : h.2.2 1 = some (xC (nI nw) hk lw st fl)) (hnw : nw < 2 ^ 30) (hS : XS h tc tf ns sw sh sa) (hK : XK h 19 20 21 ft fo) (hR : XR h nr rw rh ra) {f0 : Nat → Int32} (hL : XL h f0) : ∀ (d s : Nat) (acc : Int32) (f : Nat → Int32), s + d = nw → ∃ f', tw_b 85 14 [.ref 1, .int acc, .int (nI s)] [] (tw_set h 26 (iC 8 f)) = some (some (.int (seS (fun k => ftZ (fun hour => spF ft fo (hk &&& ~~~bitI (nI k)) (strF tc tf ns sh sa st hour 0)) rw rh ra nr) s d acc)), tw_set h 26 (iC 8 f')) := by
  intro d
  induction d with
  | zero =>
    intro s acc f hd
    have e1 : ¬ nI s < nI nw := nI_nlt (by omega) (by omega)
    refine ⟨f, ?_⟩
    rw [s85_14]
    simp [s85_0, s85_1, s85_4, s85_7, s85_9, s85_10, s85_11, s85_12, s85_13, s85_15, s85_16, s85_19, s85_22, s85_23, s85_24, s85_25, s85_28, s85_29, s85_32, s85_33, s85_36, s85_37, s85_40, s85_41, s85_42, s85_43, s85_46, s85_49, s85_50, s85_53, s85_56, s85_57, s85_58, s85_59, s85_62, s85_65, s85_66, tw_gf, tw_sg, hX, e1, seS]
  | succ d ih =>
    intro s acc f hd
    have e1 : nI s < nI nw := nI_lt (by omega) (by omega)
    obtain ⟨H, hH⟩ : ∃ H, H = tw_set h 26 (iC 8 f) := ⟨_, rfl⟩
    have gX : H.2.2 1 = some (xC (nI nw) hk lw st fl) := by rw [hH, tw_sg, if_neg (by decide)]; exact hX
    have gS : XS H tc tf ns sw sh sa := by rw [hH]; exact hS.set (by decide)
    have gK : XK H 19 20 21 ft fo := by rw [hH]; exact hK.set (by decide)
    have gL : XL H f := by rw [hH]; exact hL.put
    have gR : XR H nr rw rh ra := by rw [hH]; exact hR.set (by decide)
    obtain ⟨f1, ef⟩ := x_fitsZ gX gS (by decide) (by decide) gK gR gL st (hk &&& ~~~bitI (nI s))
    rw [show tw_set H 26 (iC 8 f1) = tw_set h 26 (iC 8 f1) by rw [hH, tw_ss]] at ef
    rw [← hH, s85_14]
    by_cases q : ftZ (fun hour => spF ft fo (hk &&& ~~~bitI (nI s)) (strF tc tf ns sh sa st hour 0)) rw rh ra nr = true
    · obtain ⟨f', ih'⟩ := ih (s + 1) (acc ||| bitI (nI s)) f1 (by omega)
      refine ⟨f', ?_⟩
      simp [s85_0, s85_1, s85_4, s85_7, s85_9, s85_10, s85_11, s85_12, s85_13, s85_15, s85_16, s85_19, s85_22, s85_23, s85_24, s85_25, s85_28, s85_29, s85_32, s85_33, s85_36, s85_37, s85_40, s85_41, s85_42, s85_43, s85_46, s85_49, s85_50, s85_53, s85_56, s85_57, s85_58, s85_59, s85_62, s85_65, s85_66, tw_gf, gX, e1, xco gX, ef, q, tw_bi_0, x_bit, nI_1, ih', seS]
    · obtain ⟨f', ih'⟩ := ih (s + 1) acc f1 (by omega)
      refine ⟨f', ?_⟩
      simp [s85_0, s85_1, s85_4, s85_7, s85_9, s85_10, s85_11, s85_12, s85_13, s85_15, s85_16, s85_19, s85_22, s85_23, s85_24, s85_25, s85_28, s85_29, s85_32, s85_33, s85_36, s85_37, s85_40, s85_41, s85_42, s85_43, s85_46, s85_49, s85_50, s85_53, s85_56, s85_57, s85_58, s85_59, s85_62, s85_65, s85_66, tw_gf, gX, e1, xco gX, ef, q, tw_bi_0, x_bit, nI_1, ih', seS]
theorem x_freed {nw : Nat} (hX : h.2.2 1 = some (xC (nI nw) hk lw st fl)) (hnw : nw < 2 ^ 30) (hS : XS h tc tf ns sw sh sa) (hK : XK h 19 20 21 ft fo) (hR : XR h nr rw rh ra) (hL : XL h f) (hw : ¬ nI nw = 0) : ∃ f', tw_b 85 0 [.ref 1, tw_un, tw_un] [] h = some (some (.int (seS (fun k => ftZ (fun hour => spF ft fo (hk &&& ~~~bitI (nI k)) (strF tc tf ns sh sa st hour 0)) rw rh ra nr) 0 nw 0)), tw_set h 26 (iC 8 f')) := by
  obtain ⟨f', hl⟩ := x_freed_loop hX hnw hS hK hR hL nw 0 0 f (by omega)
  rw [nI_0, tw_si h hL.2] at hl
  refine ⟨f', ?_⟩
  simp [s85_0, s85_1, s85_4, s85_7, s85_9, s85_10, s85_11, s85_12, s85_13, s85_15, s85_16, s85_19, s85_22, s85_23, s85_24, s85_25, s85_28, s85_29, s85_32, s85_33, s85_36, s85_37, s85_40, s85_41, s85_42, s85_43, s85_46, s85_49, s85_50, s85_53, s85_56, s85_57, s85_58, s85_59, s85_62, s85_65, s85_66, xco hX, x_hasNoTown hX, hw, tw_bi_0, hl]
theorem x_no_town (hX : h.2.2 1 = some (xC 0 hk lw st fl)) : tw_b 79 0 [.ref 1, tw_un, tw_un] [] h = some (some (.int (-3)), h) ∧ tw_b 83 0 [.ref 1, tw_un, tw_un] [] h = some (some (.int (-3)), h) ∧ tw_b 84 0 [.ref 1, tw_un, tw_un] [] h = some (some (.int (-3)), h) ∧ tw_b 85 0 [.ref 1, tw_un, tw_un] [] h = some (some (.int (-3)), h) := by
  refine ⟨?_, ?_, ?_, ?_⟩
  · simp [s79_0, s79_1, s79_4, s79_7, s79_9, s79_10, s79_11, s79_12, s79_13, s79_15, s79_16, s79_19, s79_22, s79_25, s79_26, s79_27, s79_28, s79_31, s79_32, s79_33, s79_36, s79_39, s79_42, s79_43, s79_46, s79_49, s79_50, s79_51, s79_52, s79_55, s79_58, s79_59, xco hX, x_hasNoTown hX, tw_bi_0]
  · simp [s83_0, s83_1, s83_4, s83_7, s83_9, s83_10, s83_11, s83_12, s83_13, s83_15, s83_16, s83_19, s83_20, s83_23, s83_24, s83_27, s83_28, s83_29, s83_32, s83_33, s83_34, s83_35, s83_38, s83_39, s83_42, s83_43, s83_46, s83_49, s83_52, s83_53, s83_56, s83_59, s83_60, s83_61, s83_62, s83_65, s83_68, s83_69, xco hX, x_hasNoTown hX, tw_bi_0]
  · simp [s84_0, s84_1, s84_4, s84_7, s84_9, s84_10, s84_11, s84_12, s84_13, s84_15, s84_16, s84_19, s84_22, s84_23, s84_26, s84_27, s84_30, s84_31, s84_34, s84_35, s84_38, s84_39, s84_40, s84_41, s84_44, s84_45, s84_48, s84_49, s84_52, s84_55, s84_58, s84_59, s84_62, s84_65, s84_66, s84_67, s84_68, s84_71, s84_74, s84_75, xco hX, x_hasNoTown hX, tw_bi_0]
  · simp [s85_0, s85_1, s85_4, s85_7, s85_9, s85_10, s85_11, s85_12, s85_13, s85_15, s85_16, s85_19, s85_22, s85_23, s85_24, s85_25, s85_28, s85_29, s85_32, s85_33, s85_36, s85_37, s85_40, s85_41, s85_42, s85_43, s85_46, s85_49, s85_50, s85_53, s85_56, s85_57, s85_58, s85_59, s85_62, s85_65, s85_66, xco hX, x_hasNoTown hX, tw_bi_0]
end XH
