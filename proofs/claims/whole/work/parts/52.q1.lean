/-! plan: the class -/
theorem nI_2 (r : Nat) : 2 * nI r = nI (2 * r) := (Int32.ofNat_mul 2 r).symm
/-- a set of the works below nw -/
def Wn (nw : Nat) (set : Int32) : Prop := ∃ m, m < 2 ^ nw ∧ set = nI m
theorem Wn.sml {nw : Nat} {set : Int32} (h8 : nw ≤ 8) (h : Wn nw set) : Sml set := by
  obtain ⟨m, h1, h2⟩ := h
  have : 2 ^ nw ≤ 256 := Nat.pow_le_pow_right (by decide) h8
  exact ⟨m, by omega, h2⟩
theorem Wn.hb {nw : Nat} {set : Int32} (h : Wn nw set) : HB nw set := by
  obtain ⟨m, h1, h2⟩ := h
  rw [h2]
  exact HB_nI h1
theorem Wn.xor {nw : Nat} {set : Int32} (h8 : nw ≤ 8) (h : Wn nw set) {k : Nat} (hk : k < nw) : Wn nw (set ^^^ bitI (nI k)) := by
  obtain ⟨m, h1, rfl⟩ := h
  refine ⟨m ^^^ 2 ^ k, Nat.xor_lt_two_pow h1 (Nat.pow_lt_pow_right (by decide) hk), ?_⟩
  have hbk : bitI (nI k) = nI (2 ^ k) := by
    have : ∀ w : Fin 9, bitI (nI w.1) = nI (2 ^ w.1) := by decide +kernel
    exact this ⟨k, by omega⟩
  have e1 : 2 ^ nw ≤ 256 := Nat.pow_le_pow_right (by decide) h8
  have e2 : 2 ^ k ≤ 2 ^ 8 := Nat.pow_le_pow_right (show 0 < 2 by decide) (show k ≤ 8 by omega)
  have e3 : m ^^^ 2 ^ k < 2 ^ nw := Nat.xor_lt_two_pow h1 (Nat.pow_lt_pow_right (by decide) hk)
  rw [hbk, ← Int32.toBitVec_inj, Int32.toBitVec_xor]
  apply BitVec.eq_of_toNat_eq
  show ((BitVec.ofNat 32 m) ^^^ (BitVec.ofNat 32 (2 ^ k))).toNat = (BitVec.ofNat 32 (m ^^^ 2 ^ k)).toNat
  rw [BitVec.toNat_xor, BitVec.toNat_ofNat, BitVec.toNat_ofNat, BitVec.toNat_ofNat, Nat.mod_eq_of_lt (show m < 2 ^ 32 by omega), Nat.mod_eq_of_lt (show 2 ^ k < 2 ^ 32 by omega), Nat.mod_eq_of_lt (show m ^^^ 2 ^ k < 2 ^ 32 by omega)]
def okH (x : Int32) : Prop := ¬ x < 0 ∧ x < 60
def rfS (D : Nat → Int32) (nw : Nat) : Nat → Nat → Int32
  | _, 0 => 0
  | s, d + 1 => if ¬ D (2 * s) < 0 ∧ D (2 * s) < 60 then (if ¬ D (2 * s + 1) < 0 ∧ D (2 * s + 1) < nI nw then rfS D nw (s + 1) d else -1) else -2
def wgS (D : Nat → Int32) : Nat → Nat → Int32
  | _, 0 => -9
  | s, d + 1 => if D (2 * s) < D (2 * s - 2) then nI s else wgS D (s + 1) d
def inS (D : Nat → Int32) (hour : Int32) : Nat → Nat → Int32 → Nat × Int32
  | r, 0, set => (r, set)
  | r, d + 1, set => if D (2 * r) = hour then inS D hour (r + 1) d (set ^^^ bitI (D (2 * r + 1))) else (r, set)
def pnS (D : Nat → Int32) (n : Nat) (stp : Int32 → Int32 → Int32) : Nat → Nat → Nat → Int32 → Int32 → Int32
  | _, 0, _, _, acc => acc
  | s, d + 1, r, set, acc => let q := inS D (nI s) r (n - r) set
    pnS D n stp (s + 1) d q.1 q.2 (acc + bcF (stp q.2 (nI s)))
theorem rfS_ok {D : Nat → Int32} {nw : Nat} (hnw : nw < 2 ^ 30) : ∀ (d s : Nat), rfS D nw s d = 0 → ∀ r, s ≤ r → r < s + d → ∃ k, k < nw ∧ D (2 * r + 1) = nI k := by
  intro d
  induction d with
  | zero => intro s _ r h1 h2; omega
  | succ d ih =>
    intro s h r h1 h2
    simp only [rfS] at h
    by_cases q1 : ¬ D (2 * s) < 0 ∧ D (2 * s) < 60
    · rw [if_pos q1] at h
      by_cases q2 : ¬ D (2 * s + 1) < 0 ∧ D (2 * s + 1) < nI nw
      · rw [if_pos q2] at h
        by_cases q3 : r = s
        · subst q3
          obtain ⟨k, hk, e⟩ := nI_of q2.1
          have q4 := q2.2
          rw [e] at q4
          exact ⟨k, (nI_ltI hk (by omega)).mp q4, e⟩
        · exact ih (s + 1) h r (by omega) (by omega)
      · rw [if_neg q2] at h; exact absurd h (by decide)
    · rw [if_neg q1] at h; exact absurd h (by decide)
section Q1
variable {h : tw_H} {hk lw st fl tc ln : Int32} {tf sw sh sa ft fo f : Nat → Int32} {ns nw n i N a b : Nat} {g : Nat → Option Nat}
theorem x_refusal_loop (hX : h.2.2 1 = some (xC (nI nw) hk lw st fl)) (hW : h.2.2 18 = some (rC 2 8 g)) (hg : ∀ k, wkV g k = .null ↔ ¬ (¬ k < 0 ∧ k < nI nw)) (hgr : ∀ k, ¬ wkV g k = .null → ∃ w, wkV g k = .ref w) (ha : h.2.2 a = some (oC 3 [.int ln, .ref b])) (h0 : a ≠ 0) (hb : h.2.2 b = some (iC N f)) (hN : i + 2 * n ≤ N) (hN2 : N < 2 ^ 30) : ∀ (d s : Nat), s + d = n → tw_b 73 3 [.ref 1, .ref a, .int (nI i), .int (nI n), .int (nI s)] [] h = some (some (.int (rfS (fun x => f (i + x)) nw s d)), h) := by
  have hco : tw_co h a = some 3 := by simp [tw_co, ha, h0]
  intro d
  induction d with
  | zero =>
    intro s hd
    have e : ¬ nI s < nI n := nI_nlt (by omega) (by omega)
    rw [s73_3]
    simp [s73_0, s73_1, s73_5, s73_6, s73_9, s73_9n, s73_10, s73_11, s73_12, s73_14, s73_15, s73_16, s73_19, s73_22, s73_25, s73_27, s73_28, s73_29, s73_29n, s73_30, s73_31, s73_32, s73_34, s73_35, s73_36, s73_37, s73_38, s73_41, s73_44, s73_44n, s73_47, s73_48, s73_49, s73_52, s73_55, s73_56, e, rfS]
  | succ d ih =>
    intro s hd
    have e : nI s < nI n := nI_lt (by omega) (by omega)
    have e1 := x_get ha h0 hb (by omega) (nI (i + 2 * s))
    have e2 := x_get ha h0 hb (by omega) (nI (i + 2 * s + 1))
    rw [atF_n (by omega) (by omega)] at e1 e2
    simp only [rfS]
    simp only [show i + (2 * s + 1) = i + 2 * s + 1 from by omega]
    rw [s73_3]
    by_cases q1 : ¬ f (i + 2 * s) < 0 ∧ f (i + 2 * s) < 60
    · rw [if_pos q1]
      have hw := x_workOf hX hW (f (i + 2 * s + 1))
      by_cases q2 : ¬ f (i + 2 * s + 1) < 0 ∧ f (i + 2 * s + 1) < nI nw
      · rw [if_pos q2]
        have hne : ¬ wkV g (f (i + 2 * s + 1)) = .null := fun z => (hg _).mp z q2
        obtain ⟨w, hwk⟩ := hgr _ hne
        rw [hwk] at hw
        rw [← ih (s + 1) (by omega)]
        simp [s73_0, s73_1, s73_5, s73_6, s73_9, s73_9n, s73_10, s73_11, s73_12, s73_14, s73_15, s73_16, s73_19, s73_22, s73_25, s73_27, s73_28, s73_29, s73_29n, s73_30, s73_31, s73_32, s73_34, s73_35, s73_36, s73_37, s73_38, s73_41, s73_44, s73_44n, s73_47, s73_48, s73_49, s73_52, s73_55, s73_56, e, nI_2, nI_add, nI_1, hco, e1, e2, x_isHour, q1, tw_bi_0, xco hX, hw]
      · rw [if_neg q2]
        have hwk := (hg (f (i + 2 * s + 1))).mpr q2
        rw [hwk] at hw
        simp [s73_0, s73_1, s73_5, s73_6, s73_9, s73_9n, s73_10, s73_11, s73_12, s73_14, s73_15, s73_16, s73_19, s73_22, s73_25, s73_27, s73_28, s73_29, s73_29n, s73_30, s73_31, s73_32, s73_34, s73_35, s73_36, s73_37, s73_38, s73_41, s73_44, s73_44n, s73_47, s73_48, s73_49, s73_52, s73_55, s73_56, e, nI_2, nI_add, nI_1, hco, e1, e2, x_isHour, q1, tw_bi_0, xco hX, hw]
    · rw [if_neg q1]
      have q1' : decide (¬ f (i + 2 * s) < 0 ∧ f (i + 2 * s) < 60) = false := decide_eq_false q1
      have eh := x_isHour (f (i + 2 * s)) h
      rw [q1'] at eh
      simp [s73_0, s73_1, s73_5, s73_6, s73_9, s73_9n, s73_10, s73_11, s73_12, s73_14, s73_15, s73_16, s73_19, s73_22, s73_25, s73_27, s73_28, s73_29, s73_29n, s73_30, s73_31, s73_32, s73_34, s73_35, s73_36, s73_37, s73_38, s73_41, s73_44, s73_44n, s73_47, s73_48, s73_49, s73_52, s73_55, s73_56, e, nI_2, nI_add, hco, e1, eh, tw_bi_0]
theorem x_wrong_loop (ha : h.2.2 a = some (oC 3 [.int ln, .ref b])) (h0 : a ≠ 0) (hb : h.2.2 b = some (iC N f)) (hN : i + 2 * n ≤ N) (hN2 : N < 2 ^ 30) : ∀ (d s : Nat), s + d = n → 0 < s → tw_b 75 2 [.ref a, .int (nI i), .int (nI n), .int (nI s)] [] h = some (some (.int (wgS (fun x => f (i + x)) s d)), h) := by
  have hco : tw_co h a = some 3 := by simp [tw_co, ha, h0]
  intro d
  induction d with
  | zero =>
    intro s hd _
    have e : ¬ nI s < nI n := nI_nlt (by omega) (by omega)
    rw [s75_2]
    simp [s75_0, s75_1, s75_3, s75_4, s75_7, s75_7n, s75_8, s75_9, s75_10, s75_11, s75_12, s75_13, s75_16, s75_16n, s75_17, s75_18, s75_19, s75_20, s75_21, s75_22, s75_23, s75_24, s75_27, s75_30, s75_31, s75_32, s75_35, s75_38, s75_40, e, wgS]
  | succ d ih =>
    intro s hd hs
    have e : nI s < nI n := nI_lt (by omega) (by omega)
    have e1 := x_get ha h0 hb (by omega) (nI (i + 2 * s))
    have e2 := x_get ha h0 hb (by omega) (nI (i + (2 * s - 2)))
    rw [atF_n (by omega) (by omega)] at e1 e2
    have e3 : nI (i + 2 * s) - 2 = nI (i + (2 * s - 2)) := by
      rw [show i + 2 * s = i + (2 * s - 2) + 2 by omega, ← nI_add]
      exact Int32.add_sub_cancel _ _
    simp only [wgS]
    rw [s75_2]
    by_cases q : f (i + 2 * s) < f (i + (2 * s - 2))
    · rw [if_pos q]
      simp [s75_0, s75_1, s75_3, s75_4, s75_7, s75_7n, s75_8, s75_9, s75_10, s75_11, s75_12, s75_13, s75_16, s75_16n, s75_17, s75_18, s75_19, s75_20, s75_21, s75_22, s75_23, s75_24, s75_27, s75_30, s75_31, s75_32, s75_35, s75_38, s75_40, e, nI_2, nI_add, e3, hco, e1, e2, q]
    · rw [if_neg q, ← ih (s + 1) (by omega) (by omega)]
      simp [s75_0, s75_1, s75_3, s75_4, s75_7, s75_7n, s75_8, s75_9, s75_10, s75_11, s75_12, s75_13, s75_16, s75_16n, s75_17, s75_18, s75_19, s75_20, s75_21, s75_22, s75_23, s75_24, s75_27, s75_30, s75_31, s75_32, s75_35, s75_38, s75_40, e, nI_2, nI_add, e3, hco, e1, e2, q, nI_1]
theorem x_plan_in (ha : h.2.2 a = some (oC 3 [.int ln, .ref b])) (h0 : a ≠ 0) (hb : h.2.2 b = some (iC N f)) (hN : i + 2 * n ≤ N) (hN2 : N < 2 ^ 30) (late hour : Int32) : ∀ (d r : Nat) (set : Int32), r + d = n → tw_b 76 22 [.ref 1, .ref a, .int (nI i), .int (nI n), .int set, .int late, .int (nI r), .int hour] [] h = tw_b 76 69 [.ref 1, .ref a, .int (nI i), .int (nI n), .int (inS (fun x => f (i + x)) hour r d set).2, .int late, .int (nI (inS (fun x => f (i + x)) hour r d set).1), .int hour] [] h := by
  have hco : tw_co h a = some 3 := by simp [tw_co, ha, h0]
  intro d
  induction d with
  | zero =>
    intro r set hr
    have e : ¬ nI r < nI n := nI_nlt (by omega) (by omega)
    rw [s76_22]
    simp [s76_0, s76_1, s76_4, s76_6, s76_7, s76_9, s76_10, s76_12, s76_13, s76_17, s76_19, s76_24, s76_25, s76_28, s76_28n, s76_29, s76_30, s76_31, s76_33, s76_34, s76_35, s76_38, s76_40, s76_43, s76_45, s76_45n, s76_46, s76_47, s76_48, s76_50, s76_51, s76_52, s76_53, s76_54, s76_57, s76_60, s76_61, s76_63, s76_66, s76_71, s76_72, s76_74, s76_76, s76_79, s76_82, s76_83, s76_85, s76_88, s76_91, s76_93, e, inS]
  | succ d ih =>
    intro r set hr
    have e : nI r < nI n := nI_lt (by omega) (by omega)
    have e1 := x_get ha h0 hb (by omega) (nI (i + 2 * r))
    have e2 := x_get ha h0 hb (by omega) (nI (i + 2 * r + 1))
    rw [atF_n (by omega) (by omega)] at e1 e2
    simp only [inS]
    simp only [show i + (2 * r + 1) = i + 2 * r + 1 from by omega]
    rw [s76_22]
    by_cases q : f (i + 2 * r) = hour
    · rw [if_pos q, ← ih (r + 1) _ (by omega)]
      simp [s76_0, s76_1, s76_4, s76_6, s76_7, s76_9, s76_10, s76_12, s76_13, s76_17, s76_19, s76_24, s76_25, s76_28, s76_28n, s76_29, s76_30, s76_31, s76_33, s76_34, s76_35, s76_38, s76_40, s76_43, s76_45, s76_45n, s76_46, s76_47, s76_48, s76_50, s76_51, s76_52, s76_53, s76_54, s76_57, s76_60, s76_61, s76_63, s76_66, s76_71, s76_72, s76_74, s76_76, s76_79, s76_82, s76_83, s76_85, s76_88, s76_91, s76_93, e, nI_2, nI_add, nI_1, hco, e1, e2, q, x_bit]
    · rw [if_neg q]
      simp [s76_0, s76_1, s76_4, s76_6, s76_7, s76_9, s76_10, s76_12, s76_13, s76_17, s76_19, s76_24, s76_25, s76_28, s76_28n, s76_29, s76_30, s76_31, s76_33, s76_34, s76_35, s76_38, s76_40, s76_43, s76_45, s76_45n, s76_46, s76_47, s76_48, s76_50, s76_51, s76_52, s76_53, s76_54, s76_57, s76_60, s76_61, s76_63, s76_66, s76_71, s76_72, s76_74, s76_76, s76_79, s76_82, s76_83, s76_85, s76_88, s76_91, s76_93, e, nI_2, nI_add, hco, e1, q]
theorem inS_le {D : Nat → Int32} {hour : Int32} : ∀ (d r : Nat) (set : Int32), r ≤ (inS D hour r d set).1 ∧ (inS D hour r d set).1 ≤ r + d := by
  intro d
  induction d with
  | zero => intro r set; exact ⟨Nat.le_refl _, Nat.le_refl _⟩
  | succ d ih =>
    intro r set
    simp only [inS]
    by_cases q : D (2 * r) = hour
    · rw [if_pos q]
      have := ih (r + 1) (set ^^^ bitI (D (2 * r + 1)))
      exact ⟨by omega, by omega⟩
    · rw [if_neg q]
      exact ⟨Nat.le_refl _, by simp only; omega⟩
theorem x_plan_loop (hX : h.2.2 1 = some (xC (nI nw) hk lw st fl)) (hS : XS h tc tf ns sw sh sa) (hK : XK h 19 20 21 ft fo) (ha : h.2.2 a = some (oC 3 [.int ln, .ref b])) (h0 : a ≠ 0) (hb : h.2.2 b = some (iC N f)) (hN : i + 2 * n ≤ N) (hN2 : N < 2 ^ 30) : ∀ (d s r : Nat) (set late : Int32), s + d = 60 → r ≤ n → tw_b 76 15 [.ref 1, .ref a, .int (nI i), .int (nI n), .int set, .int late, .int (nI r), .int (nI s)] [] h = some (some (.int (pnS (fun x => f (i + x)) n (fun set hour => spF ft fo set (strF tc tf ns sh sa st hour 0)) s d r set late)), h) := by
  intro d
  induction d with
  | zero =>
    intro s r set late hd _
    have e1 : ¬ nI s < 60 := nI_nlt (b := 60) (by omega) (by omega)
    rw [s76_15]
    simp [s76_0, s76_1, s76_4, s76_6, s76_7, s76_9, s76_10, s76_12, s76_13, s76_17, s76_19, s76_24, s76_25, s76_28, s76_28n, s76_29, s76_30, s76_31, s76_33, s76_34, s76_35, s76_38, s76_40, s76_43, s76_45, s76_45n, s76_46, s76_47, s76_48, s76_50, s76_51, s76_52, s76_53, s76_54, s76_57, s76_60, s76_61, s76_63, s76_66, s76_69, s76_71, s76_72, s76_74, s76_76, s76_79, s76_82, s76_83, s76_85, s76_88, s76_91, s76_93, e1, pnS]
  | succ d ih =>
    intro s r set late hd hr
    have e1 : nI s < 60 := nI_lt (b := 60) (by omega) (by omega)
    have hi := x_plan_in ha h0 hb hN hN2 late (nI s) (n - r) r set (by omega)
    have hle := inS_le (D := fun x => f (i + x)) (hour := nI s) (n - r) r set
    simp only [pnS]
    obtain ⟨q, hq⟩ : ∃ q, q = inS (fun x => f (i + x)) (nI s) r (n - r) set := ⟨_, rfl⟩
    rw [← hq] at hi hle ⊢
    rw [← ih (s + 1) q.1 q.2 _ (by omega) (by omega), s76_15]
    simp [s76_17, s76_19, e1, hi, s76_69, s76_71, s76_72, s76_74, s76_76, s76_79, s76_82, s76_83, s76_85, s76_88, xco hX, x_stopped hX hS hK, x_bitCount, nI_1]
end Q1
