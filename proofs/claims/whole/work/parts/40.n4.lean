/-! odds -/
def odC (p : Nat → Bool) : Nat → Nat → Nat → Nat
  | _, 0, c => c
  | s, d + 1, c => odC p (s + 1) d (c + if p s = true then 1 else 0)
theorem odC_le (p : Nat → Bool) : ∀ (d s c : Nat), odC p s d c ≤ c + d := by
  intro d
  induction d with
  | zero => intro s c; exact Nat.le_refl _
  | succ d ih =>
    intro s c
    simp only [odC]
    have := ih (s + 1) (c + if p s = true then 1 else 0)
    have h1 : (if p s = true then 1 else 0) ≤ 1 := by split <;> omega
    omega
theorem odC_congr {p q : Nat → Bool} : ∀ (d s c : Nat), (∀ j, s ≤ j → j < s + d → p j = q j) → odC p s d c = odC q s d c := by
  intro d
  induction d with
  | zero => intro s c _; rfl
  | succ d ih =>
    intro s c h
    simp only [odC]
    rw [h s (by omega) (by omega)]
    exact ih (s + 1) _ (fun j h1 h2 => h j (by omega) (by omega))
def ohS : Nat → Int32 → Int32 → Option (Int32 × Int32)
  | 0, u, l => if 1 < l ∧ u - u / 2 * 2 = 0 then none else some (u, l)
  | d + 1, u, l => if 1 < l ∧ u - u / 2 * 2 = 0 then ohS d (u / 2) (l / 2) else some (u, l)
def tdS : Nat → Int64 → Int64 → Option Int64
  | 0, x, y => if y = 0 then some x else none
  | d + 1, x, y => if y = 0 then some x else tdS d y (x - x / y * y)
def odChk (w c : Nat) : Bool := match ohS 8 (nI c) (nI (2 ^ w)), tdS 20 (lN c) (lN (2 ^ w)) with
  | some (u, l), some x => !decide (x = 0) && decide (u.toInt64 = lN c / x) && decide (l.toInt64 = lN (2 ^ w) / x)
  | _, _ => false
theorem odChk_all : ∀ (w : Fin 9) (c : Fin 257), c.1 ≤ 2 ^ w.1 → odChk w.1 c.1 = true := by decide +kernel
theorem od_ok {w c : Nat} (hw : w ≤ 8) (hc : c ≤ 2 ^ w) : ∃ u l x, ohS 8 (nI c) (nI (2 ^ w)) = some (u, l) ∧ tdS 20 (lN c) (lN (2 ^ w)) = some x ∧ ¬ x = 0 ∧ u.toInt64 = lN c / x ∧ l.toInt64 = lN (2 ^ w) / x := by
  have h256 : 2 ^ w ≤ 256 := Nat.pow_le_pow_right (by decide) hw
  have h := odChk_all ⟨w, by omega⟩ ⟨c, by omega⟩ hc
  simp only [odChk] at h
  cases e1 : ohS 8 (nI c) (nI (2 ^ w)) with
  | none => rw [e1] at h; simp at h
  | some r =>
    cases e2 : tdS 20 (lN c) (lN (2 ^ w)) with
    | none => rw [e1, e2] at h; simp at h
    | some x =>
      rw [e1, e2] at h
      obtain ⟨u, l⟩ := r
      simp only [Bool.and_eq_true, Bool.not_eq_true', decide_eq_false_iff_not, decide_eq_true_eq] at h
      exact ⟨u, l, x, rfl, rfl, h.1.1, h.1.2, h.2⟩
section X4
variable {h : tw_H} {wc hk lw st fl tc : Int32} {tf sw sh sa ft fo : Nat → Int32} {ns : Nat}
theorem x_half_loop (k hour which str set : Int32) : ∀ (d : Nat) (u l u' l' : Int32), ohS d u l = some (u', l') → tw_b 86 104 [.ref 1, .int k, .int hour, .int which, .int str, .int u, .int l, .int set] [] h = some (some (.long (if which = 0 then u'.toInt64 else l'.toInt64)), h) := by
  have fin : ∀ (u l : Int32), ¬ (1 < l ∧ u - u / 2 * 2 = 0) → tw_b 86 104 [.ref 1, .int k, .int hour, .int which, .int str, .int u, .int l, .int set] [] h = some (some (.long (if which = 0 then u.toInt64 else l.toInt64)), h) := fun u l hn => by
    rw [s86_104]
    by_cases q1 : 1 < l
    · have q2 : ¬ u - u / 2 * 2 = 0 := fun z => hn ⟨q1, z⟩
      by_cases q : which = 0 <;> simp [s86_0, s86_1, s86_2, s86_5, s86_5n, s86_8, s86_9, s86_12, s86_15, s86_16, s86_19, s86_20, s86_21, s86_24, s86_27, s86_28, s86_29, s86_32, s86_33, s86_36, s86_37, s86_38, s86_41, s86_43, s86_44, s86_46, s86_47, s86_50, s86_53, s86_55, s86_56, s86_60, s86_61, s86_64, s86_67, s86_70, s86_72, s86_73, s86_76, s86_78, s86_80, s86_83, s86_84, s86_87, s86_90, s86_91, s86_94, s86_95, s86_96, s86_98, s86_101, s86_106, s86_107, s86_110, s86_112, s86_113, s86_114, s86_117, s86_119, s86_120, s86_121, s86_123, s86_125, s86_126, s86_127, s86_129, s86_132, s86_133, s86_136, s86_138, s86_139, s86_142, s86_144, s86_145, q1, q2, q]
    · by_cases q : which = 0 <;> simp [s86_0, s86_1, s86_2, s86_5, s86_5n, s86_8, s86_9, s86_12, s86_15, s86_16, s86_19, s86_20, s86_21, s86_24, s86_27, s86_28, s86_29, s86_32, s86_33, s86_36, s86_37, s86_38, s86_41, s86_43, s86_44, s86_46, s86_47, s86_50, s86_53, s86_55, s86_56, s86_60, s86_61, s86_64, s86_67, s86_70, s86_72, s86_73, s86_76, s86_78, s86_80, s86_83, s86_84, s86_87, s86_90, s86_91, s86_94, s86_95, s86_96, s86_98, s86_101, s86_106, s86_107, s86_110, s86_112, s86_113, s86_114, s86_117, s86_119, s86_120, s86_121, s86_123, s86_125, s86_126, s86_127, s86_129, s86_132, s86_133, s86_136, s86_138, s86_139, s86_142, s86_144, s86_145, q1, q]
  intro d
  induction d with
  | zero =>
    intro u l u' l' he
    simp only [ohS] at he
    by_cases q : 1 < l ∧ u - u / 2 * 2 = 0
    · rw [if_pos q] at he; cases he
    · rw [if_neg q] at he
      cases he
      exact fin u l q
  | succ d ih =>
    intro u l u' l' he
    simp only [ohS] at he
    by_cases q : 1 < l ∧ u - u / 2 * 2 = 0
    · rw [if_pos q] at he
      rw [← ih _ _ _ _ he, s86_104]
      simp [s86_0, s86_1, s86_2, s86_5, s86_5n, s86_8, s86_9, s86_12, s86_15, s86_16, s86_19, s86_20, s86_21, s86_24, s86_27, s86_28, s86_29, s86_32, s86_33, s86_36, s86_37, s86_38, s86_41, s86_43, s86_44, s86_46, s86_47, s86_50, s86_53, s86_55, s86_56, s86_60, s86_61, s86_64, s86_67, s86_70, s86_72, s86_73, s86_76, s86_78, s86_80, s86_83, s86_84, s86_87, s86_90, s86_91, s86_94, s86_95, s86_96, s86_98, s86_101, s86_106, s86_107, s86_110, s86_112, s86_113, s86_114, s86_117, s86_119, s86_120, s86_121, s86_123, s86_125, s86_126, s86_127, s86_129, s86_132, s86_133, s86_136, s86_138, s86_139, s86_142, s86_144, s86_145, q.1, q.2]
    · rw [if_neg q] at he
      cases he
      exact fin u l q
theorem x_odd_loop {nw : Nat} (h8 : nw ≤ 8) (hX : h.2.2 1 = some (xC (nI nw) hk lw st fl)) (hK : XK h 19 20 21 ft fo) (k hour which str low : Int32) : ∀ (d s c : Nat), s + d = 2 ^ nw → tw_b 86 58 [.ref 1, .int k, .int hour, .int which, .int str, .int (nI c), .int low, .int (nI s)] [] h = tw_b 86 104 [.ref 1, .int k, .int hour, .int which, .int str, .int (nI (odC (fun s => hasB (goF ft fo (nI s) str) k) s d c)), .int low, .int (nI (2 ^ nw))] [] h := by
  have hN : bitI (nI nw) = nI (2 ^ nw) := by
    have : ∀ w : Fin 9, bitI (nI w.1) = nI (2 ^ w.1) := by decide +kernel
    exact this ⟨nw, by omega⟩
  have h256 : 2 ^ nw ≤ 256 := Nat.pow_le_pow_right (by decide) h8
  intro d
  induction d with
  | zero =>
    intro s c hd
    have e1 : ¬ nI s < nI (2 ^ nw) := nI_nlt (by omega) (by omega)
    have hs : s = 2 ^ nw := by omega
    rw [s86_58]
    simp only [odC]
    rw [← hs] at hN e1 ⊢
    simp [s86_0, s86_1, s86_2, s86_5, s86_5n, s86_8, s86_9, s86_12, s86_15, s86_16, s86_19, s86_20, s86_21, s86_24, s86_27, s86_28, s86_29, s86_32, s86_33, s86_36, s86_37, s86_38, s86_41, s86_43, s86_44, s86_46, s86_47, s86_50, s86_53, s86_55, s86_56, s86_60, s86_61, s86_64, s86_67, s86_70, s86_72, s86_73, s86_76, s86_78, s86_80, s86_83, s86_84, s86_87, s86_90, s86_91, s86_94, s86_95, s86_96, s86_98, s86_101, s86_106, s86_107, s86_110, s86_112, s86_113, s86_114, s86_117, s86_119, s86_120, s86_121, s86_123, s86_125, s86_126, s86_127, s86_129, s86_132, s86_133, s86_136, s86_138, s86_139, s86_142, s86_144, s86_145, tw_gf, hX, x_bit, hN, e1]
  | succ d ih =>
    intro s c hd
    have e1 : nI s < nI (2 ^ nw) := nI_lt (by omega) (by omega)
    simp only [odC]
    rw [← ih (s + 1) _ (by omega), s86_58]
    by_cases q : hasB (goF ft fo (nI s) str) k = true
    · simp [s86_0, s86_1, s86_2, s86_5, s86_5n, s86_8, s86_9, s86_12, s86_15, s86_16, s86_19, s86_20, s86_21, s86_24, s86_27, s86_28, s86_29, s86_32, s86_33, s86_36, s86_37, s86_38, s86_41, s86_43, s86_44, s86_46, s86_47, s86_50, s86_53, s86_55, s86_56, s86_60, s86_61, s86_64, s86_67, s86_70, s86_72, s86_73, s86_76, s86_78, s86_80, s86_83, s86_84, s86_87, s86_90, s86_91, s86_94, s86_95, s86_96, s86_98, s86_101, s86_106, s86_107, s86_110, s86_112, s86_113, s86_114, s86_117, s86_119, s86_120, s86_121, s86_123, s86_125, s86_126, s86_127, s86_129, s86_132, s86_133, s86_136, s86_138, s86_139, s86_142, s86_144, s86_145, tw_gf, hX, x_bit, hN, e1, hK.co (show 19 ≠ 0 by decide), x_goX hK (show 19 ≠ 0 by decide), x_has, tw_bi_0, q, nI_1]
    · simp [s86_0, s86_1, s86_2, s86_5, s86_5n, s86_8, s86_9, s86_12, s86_15, s86_16, s86_19, s86_20, s86_21, s86_24, s86_27, s86_28, s86_29, s86_32, s86_33, s86_36, s86_37, s86_38, s86_41, s86_43, s86_44, s86_46, s86_47, s86_50, s86_53, s86_55, s86_56, s86_60, s86_61, s86_64, s86_67, s86_70, s86_72, s86_73, s86_76, s86_78, s86_80, s86_83, s86_84, s86_87, s86_90, s86_91, s86_94, s86_95, s86_96, s86_98, s86_101, s86_106, s86_107, s86_110, s86_112, s86_113, s86_114, s86_117, s86_119, s86_120, s86_121, s86_123, s86_125, s86_126, s86_127, s86_129, s86_132, s86_133, s86_136, s86_138, s86_139, s86_142, s86_144, s86_145, tw_gf, hX, x_bit, hN, e1, hK.co (show 19 ≠ 0 by decide), x_goX hK (show 19 ≠ 0 by decide), x_has, tw_bi_0, q, nI_1]
theorem x_odds {nw : Nat} {g : Nat → Option Nat} (h8 : nw ≤ 8) (hX : h.2.2 1 = some (xC (nI nw) hk lw st fl)) (hS : XS h tc tf ns sw sh sa) (hK : XK h 19 20 21 ft fo) (hW : h.2.2 18 = some (rC 2 8 g)) {k : Int32} {w : Nat} (hwk : wkV g k = .ref w) {hour which : Int32} (h1 : ¬ hour < 0 ∧ hour < 60) (h2 : ¬ which < 0 ∧ ¬ 1 < which) {u l : Int32} (ho : ohS 8 (nI (odC (fun s => hasB (goF ft fo (nI s) (strF tc tf ns sh sa st hour 0)) k) 0 (2 ^ nw) 0)) (nI (2 ^ nw)) = some (u, l)) : tw_b 86 0 [.ref 1, .int k, .int hour, .int which, tw_un, tw_un, tw_un, tw_un] [] h = some (some (.long (if which = 0 then u.toInt64 else l.toInt64)), h) := by
  have hN : bitI (nI nw) = nI (2 ^ nw) := by
    have : ∀ w : Fin 9, bitI (nI w.1) = nI (2 ^ w.1) := by decide +kernel
    exact this ⟨nw, by omega⟩
  have hl := x_odd_loop h8 hX hK k hour which (strF tc tf ns sh sa st hour 0) (nI (2 ^ nw)) (2 ^ nw) 0 0 (by omega)
  rw [nI_0, x_half_loop k hour which _ _ 8 _ _ u l ho] at hl
  have hw := x_workOf hX hW k
  rw [hwk] at hw
  simp [s86_0, s86_1, s86_2, s86_5, s86_5n, s86_8, s86_9, s86_12, s86_15, s86_16, s86_19, s86_20, s86_21, s86_24, s86_27, s86_28, s86_29, s86_32, s86_33, s86_36, s86_37, s86_38, s86_41, s86_43, s86_44, s86_46, s86_47, s86_50, s86_53, s86_55, s86_56, s86_60, s86_61, s86_64, s86_67, s86_70, s86_72, s86_73, s86_76, s86_78, s86_80, s86_83, s86_84, s86_87, s86_90, s86_91, s86_94, s86_95, s86_96, s86_98, s86_101, s86_106, s86_107, s86_110, s86_112, s86_113, s86_114, s86_117, s86_119, s86_120, s86_121, s86_123, s86_125, s86_126, s86_127, s86_129, s86_132, s86_133, s86_136, s86_138, s86_139, s86_142, s86_144, s86_145, hw, xco hX, x_isHour, tw_bi_0, h1, h2, tw_gf, hX, hS.co, x_strX hS, x_bit, hN, hl]
theorem x_odds_no {g : Nat → Option Nat} (hX : h.2.2 1 = some (xC wc hk lw st fl)) (hW : h.2.2 18 = some (rC 2 8 g)) {k hour which : Int32} (hb : wkV g k = .null ∨ ((∃ w, wkV g k = .ref w) ∧ ¬ ((¬ hour < 0 ∧ hour < 60) ∧ (¬ which < 0 ∧ ¬ 1 < which)))) : tw_b 86 0 [.ref 1, .int k, .int hour, .int which, tw_un, tw_un, tw_un, tw_un] [] h = some (some (.long (-9223372036854775808)), h) := by
  have hw := x_workOf hX hW k
  rcases hb with hwk | ⟨⟨w, hwk⟩, hb⟩
  · rw [hwk] at hw
    simp [s86_0, s86_1, s86_2, s86_5, s86_5n, s86_8, s86_9, s86_12, s86_15, s86_16, s86_19, s86_20, s86_21, s86_24, s86_27, s86_28, s86_29, s86_32, s86_33, s86_36, s86_37, s86_38, s86_41, s86_43, s86_44, s86_46, s86_47, s86_50, s86_53, s86_55, s86_56, s86_60, s86_61, s86_64, s86_67, s86_70, s86_72, s86_73, s86_76, s86_78, s86_80, s86_83, s86_84, s86_87, s86_90, s86_91, s86_94, s86_95, s86_96, s86_98, s86_101, s86_106, s86_107, s86_110, s86_112, s86_113, s86_114, s86_117, s86_119, s86_120, s86_121, s86_123, s86_125, s86_126, s86_127, s86_129, s86_132, s86_133, s86_136, s86_138, s86_139, s86_142, s86_144, s86_145, hw, xco hX]
  · rw [hwk] at hw
    by_cases q : ¬ hour < 0 ∧ hour < 60
    · by_cases q1 : which < 0
      · simp [s86_0, s86_1, s86_2, s86_5, s86_5n, s86_8, s86_9, s86_12, s86_15, s86_16, s86_19, s86_20, s86_21, s86_24, s86_27, s86_28, s86_29, s86_32, s86_33, s86_36, s86_37, s86_38, s86_41, s86_43, s86_44, s86_46, s86_47, s86_50, s86_53, s86_55, s86_56, s86_60, s86_61, s86_64, s86_67, s86_70, s86_72, s86_73, s86_76, s86_78, s86_80, s86_83, s86_84, s86_87, s86_90, s86_91, s86_94, s86_95, s86_96, s86_98, s86_101, s86_106, s86_107, s86_110, s86_112, s86_113, s86_114, s86_117, s86_119, s86_120, s86_121, s86_123, s86_125, s86_126, s86_127, s86_129, s86_132, s86_133, s86_136, s86_138, s86_139, s86_142, s86_144, s86_145, hw, xco hX, x_isHour, tw_bi_0, q, q1]
      · have q2 : 1 < which := by
          by_cases z : 1 < which
          · exact z
          · exact absurd ⟨q, q1, z⟩ hb
        simp [s86_0, s86_1, s86_2, s86_5, s86_5n, s86_8, s86_9, s86_12, s86_15, s86_16, s86_19, s86_20, s86_21, s86_24, s86_27, s86_28, s86_29, s86_32, s86_33, s86_36, s86_37, s86_38, s86_41, s86_43, s86_44, s86_46, s86_47, s86_50, s86_53, s86_55, s86_56, s86_60, s86_61, s86_64, s86_67, s86_70, s86_72, s86_73, s86_76, s86_78, s86_80, s86_83, s86_84, s86_87, s86_90, s86_91, s86_94, s86_95, s86_96, s86_98, s86_101, s86_106, s86_107, s86_110, s86_112, s86_113, s86_114, s86_117, s86_119, s86_120, s86_121, s86_123, s86_125, s86_126, s86_127, s86_129, s86_132, s86_133, s86_136, s86_138, s86_139, s86_142, s86_144, s86_145, hw, xco hX, x_isHour, tw_bi_0, q, q1, q2]
    · simp only [s86_0, s86_1, s86_2, s86_5, s86_5n, s86_8, s86_9, s86_12, s86_15, s86_16, s86_19, s86_20, s86_21, s86_24, s86_27, s86_28, s86_29, s86_32, s86_33, s86_36, s86_37, s86_38, s86_41, s86_43, s86_44, s86_46, s86_47, s86_50, s86_53, s86_55, s86_56, s86_60, s86_61, s86_64, s86_67, s86_70, s86_72, s86_73, s86_76, s86_78, s86_80, s86_83, s86_84, s86_87, s86_90, s86_91, s86_94, s86_95, s86_96, s86_98, s86_101, s86_106, s86_107, s86_110, s86_112, s86_113, s86_114, s86_117, s86_119, s86_120, s86_121, s86_123, s86_125, s86_126, s86_127, s86_129, s86_132, s86_133, s86_136, s86_138, s86_139, s86_142, s86_144, s86_145, hw, xco hX, x_isHour, Option.bind_some, Option.bind_none, Option.toList_some, Option.toList_none, List.cons_append, List.nil_append, tw_bi_0, decide_eq_false q, if_true]
end X4
