/-! the class's small methods -/
theorem tw_vi_iff {i : Int32} {n : Nat} (hn : n < 2 ^ 31) : tw_vi i n = true ↔ (¬ i < 0 ∧ i < Int32.ofNat n) := by
  unfold tw_vi
  simp only [Bool.and_eq_true, decide_eq_true_eq]
  constructor
  · rintro ⟨h1, h2⟩
    refine ⟨Int32.not_lt.mpr h1, ?_⟩
    obtain ⟨j, hj, rfl⟩ := nI_of (Int32.not_lt.mpr h1)
    rw [nI_clamp hj] at h2
    exact nI_lt h2 hn
  · rintro ⟨h1, h2⟩
    obtain ⟨j, hj, rfl⟩ := nI_of h1
    refine ⟨Int32.not_lt.mp h1, ?_⟩
    rw [nI_clamp hj]
    exact (nI_ltI hj hn).mp h2
def hasB (set k : Int32) : Bool := decide (¬ (set >>> (k &&& 31)) &&& 1 = 0)
def bitI (k : Int32) : Int32 := 1 <<< (k &&& 31)
def atF (n : Nat) (f : Nat → Int32) (i : Int32) : Int32 := if tw_vi i n = true then f i.toNatClampNeg else 0
theorem x_bit (k : Int32) (h : tw_H) : tw_b 29 0 [.int k] [] h = some (some (.int (bitI k)), h) := by
  simp only [s29_0, s29_1, s29_2, s29_3, bitI]
theorem x_has (set k : Int32) (h : tw_H) : tw_b 35 0 [.int set, .int k] [] h = some (some (.int (tw_bi (hasB set k))), h) := by
  simp only [s35_0, s35_1, s35_2, s35_3, s35_4, s35_5, s35_8, s35_9, s35_12, s35_13, hasB]
  by_cases q : (set >>> (k &&& 31)) &&& 1 = 0
  · simp [q, tw_z_0, tw_bi]
  · simp [q, tw_z_1, tw_bi]
theorem x_isLane (v : Int32) (h : tw_H) : tw_b 9 0 [.int v] [] h = some (some (.int (tw_bi (decide (¬ v < 0 ∧ v < 3)))), h) := by
  simp only [s9_0, s9_1, s9_4, s9_5, s9_6, s9_9, s9_10, s9_13, s9_14]
  by_cases q : v < 0
  · simp [q, tw_z_0, tw_bi]
  · by_cases q2 : v < 3 <;> simp [q, q2, tw_z_0, tw_z_1, tw_bi]
theorem x_isHour (v : Int32) (h : tw_H) : tw_b 47 0 [.int v] [] h = some (some (.int (tw_bi (decide (¬ v < 0 ∧ v < 60)))), h) := by
  simp only [s47_0, s47_1, s47_4, s47_5, s47_7, s47_10, s47_11, s47_14, s47_15]
  by_cases q : v < 0
  · simp [q, tw_z_0, tw_bi]
  · by_cases q2 : v < 60 <;> simp [q, q2, tw_z_0, tw_z_1, tw_bi]
theorem x_isForce (v : Int32) (h : tw_H) : tw_b 48 0 [.int v] [] h = some (some (.int (tw_bi (decide (¬ v < -59 ∧ ¬ 59 < v)))), h) := by
  simp only [s48_0, s48_1, s48_3, s48_6, s48_7, s48_9, s48_12, s48_13, s48_16, s48_17]
  by_cases q : v < -59
  · simp [q, tw_z_0, tw_bi]
  · by_cases q2 : 59 < v <;> simp [q, q2, tw_z_0, tw_z_1, tw_bi]
theorem x_at {a n : Nat} {f : Nat → Int32} (i : Int32) {h : tw_H} (hc : h.2.2 a = some (.inl (n, f))) (hn : n < 2 ^ 31) : tw_b 17 0 [.ref a, .int i] [] h = some (some (.int (atF n f i)), h) := by
  have e := tw_vi_iff (i := i) hn
  simp only [s17_0, s17_1, s17_4, s17_5, s17_5n, s17_6, s17_7, s17_10, s17_10n, s17_11, s17_12, s17_13, s17_16, s17_17, tw_al, tw_ia, hc, Option.bind_some, Option.bind_none, Option.toList_some, Option.toList_none, List.cons_append, List.nil_append]
  unfold atF
  by_cases q : i < 0
  · simp [q, e]
  · by_cases q2 : i < Int32.ofNat n <;> simp [q, q2, e, s17_0, s17_1, s17_4, s17_5, s17_5n, s17_6, s17_7, s17_10, s17_10n, s17_11, s17_12, s17_13, s17_16, s17_17]
