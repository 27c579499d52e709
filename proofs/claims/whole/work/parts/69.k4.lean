/-! the law: its loop -/
section LOOP
variable {h : tw_H} {L i : Nat} {xs : Nat → Int32}
theorem l_turn (I : Inv h) (h0 : h.2.2 0 = some (iC L xs)) (hL : L ≤ 384) (hi : i + 6 ≤ L) (x : Int32) : ∃ h2, tw_b 178 33 [.ref 0, .ref 1, .ref 27, .int (nI i)] [.int x] h = tw_b 178 1177 [.ref 0, .ref 1, .ref 27, .int (nI i)] [] h2 ∧ Inv h2 ∧ h2.2.2 0 = h.2.2 0 ∧ h2.1 ≤ h.1 + 10 ∧ h2.2.1 ≤ h.2.1 + 100 := by
  rw [s178_33]
  by_cases c0 : x = 0
  · rw [if_pos c0]
    exact l_town I h0 hL hi
  rw [if_neg c0]
  by_cases c1 : x = 1
  · rw [if_pos c1]
    exact l_ofWork I h0 hL hi
  rw [if_neg c1]
  by_cases c2 : x = 2
  · rw [if_pos c2]
    exact l_law I h0 hL hi
  rw [if_neg c2]
  by_cases c3 : x = 3
  · rw [if_pos c3]
    exact l_start I h0 hL hi
  rw [if_neg c3]
  by_cases c4 : x = 4
  · rw [if_pos c4]
    by_cases b : xs (i + 2) = 0
    · exact l_hookF I h0 hL hi b
    · exact l_hookT I h0 hL hi b
  rw [if_neg c4]
  by_cases c5 : x = 5
  · rw [if_pos c5]
    exact l_storm I h0 hL hi
  rw [if_neg c5]
  by_cases c6 : x = 6
  · rw [if_pos c6]
    exact l_calm I h0 hL hi
  rw [if_neg c6]
  by_cases c7 : x = 7
  · rw [if_pos c7]
    exact l_strength I h0 hL hi
  rw [if_neg c7]
  by_cases c8 : x = 8
  · rw [if_pos c8]
    exact l_goes I h0 hL hi
  rw [if_neg c8]
  by_cases c9 : x = 9
  · rw [if_pos c9]
    exact l_late I h0 hL hi
  rw [if_neg c9]
  by_cases c10 : x = 10
  · rw [if_pos c10]
    exact l_all I h0 hL hi
  rw [if_neg c10]
  by_cases c11 : x = 11
  · rw [if_pos c11]
    exact l_alike I h0 hL hi
  rw [if_neg c11]
  by_cases c12 : x = 12
  · rw [if_pos c12]
    exact l_fewest I h0 hL hi
  rw [if_neg c12]
  by_cases c13 : x = 13
  · rw [if_pos c13]
    exact l_help I h0 hL hi
  rw [if_neg c13]
  by_cases c14 : x = 14
  · rw [if_pos c14]
    exact l_plan I h0 hL hi
  rw [if_neg c14]
  by_cases c15 : x = 15
  · rw [if_pos c15]
    exact l_reading I h0 hL hi
  rw [if_neg c15]
  by_cases c16 : x = 16
  · rw [if_pos c16]
    exact l_back I h0 hL hi
  rw [if_neg c16]
  by_cases c17 : x = 17
  · rw [if_pos c17]
    exact l_starts I h0 hL hi
  rw [if_neg c17]
  by_cases c18 : x = 18
  · rw [if_pos c18]
    exact l_laws I h0 hL hi
  rw [if_neg c18]
  by_cases c19 : x = 19
  · rw [if_pos c19]
    exact l_hung I h0 hL hi
  rw [if_neg c19]
  by_cases c20 : x = 20
  · rw [if_pos c20]
    exact l_freed I h0 hL hi
  rw [if_neg c20]
  by_cases c21 : x = 21
  · rw [if_pos c21]
    exact l_odds I h0 hL hi
  rw [if_neg c21]
  by_cases c22 : x = 22
  · rw [if_pos c22]
    exact l_sheet I h0 hL hi
  rw [if_neg c22]
  by_cases c23 : x = 23
  · rw [if_pos c23]
    exact l_lose I h0 hL hi
  rw [if_neg c23]
  by_cases c24 : x = 24
  · rw [if_pos c24]
    exact l_put I h0 hL hi
  rw [if_neg c24]
  by_cases c25 : x = 25
  · rw [if_pos c25]
    exact l_cell I h0 hL hi
  rw [if_neg c25]
  by_cases c26 : x = 26
  · rw [if_pos c26]
    exact l_copy I h0 hL hi
  rw [if_neg c26]
  by_cases c27 : x = 27
  · rw [if_pos c27]
    exact l_tell I h0 hL hi
  rw [if_neg c27]
  by_cases c28 : x = 28
  · rw [if_pos c28]
    exact l_ring I h0 hL hi
  rw [if_neg c28]
  by_cases c29 : x = 29
  · rw [if_pos c29]
    exact l_as I h0 hL hi
  rw [if_neg c29]
  by_cases c30 : x = 30
  · rw [if_pos c30]
    exact l_trace I h0 hL hi
  rw [if_neg c30]
  by_cases c31 : x = 31
  · rw [if_pos c31]
    exact l_fault I h0 hL hi
  rw [if_neg c31]
  by_cases c32 : x = 32
  · rw [if_pos c32]
    exact l_many I h0 hL hi
  rw [if_neg c32]
  exact ⟨h, rfl, I, rfl, Nat.le_add_right _ _, Nat.le_add_right _ _⟩
theorem l_loop (hL : L ≤ 384) : ∀ (n t : Nat) (h : tw_H), L < 6 * (t + n) + 6 → t + n ≤ 64 → Inv h → h.2.2 0 = some (iC L xs) → ∃ h', tw_b 178 18 [.ref 0, .ref 1, .ref 27, .int (nI (6 * t))] [] h = some (some (.int 1), h') ∧ h'.1 ≤ h.1 + 10 * n ∧ h'.2.1 ≤ h.2.1 + 100 * n := by
  intro n
  induction n with
  | zero =>
    intro t h hn ht I h0
    have hal : tw_al h 0 = some (.int (nI L)) := by simp only [tw_al, h0]; rfl
    have e : nI L - 6 < nI (6 * t) := by
      rw [Int32.lt_iff_toInt_lt, Int32.toInt_sub, nI_toInt (by omega), nI_toInt (by omega)]
      have z : (6 : Int32).toInt = 6 := rfl
      rw [z, Int.bmod_eq_of_le (by omega) (by omega)]
      omega
    refine ⟨h, ?_, Nat.le_refl _, Nat.le_refl _⟩
    rw [s178_18]
    simp [s178_19, s178_20, s178_21, s178_23, s178_24, s178_1183, s178_1184, hal, e, tw_z_1]
  | succ n ih =>
    intro t h hn ht I h0
    have hal : tw_al h 0 = some (.int (nI L)) := by simp only [tw_al, h0]; rfl
    by_cases q : L < 6 * t + 6
    · have e : nI L - 6 < nI (6 * t) := by
        rw [Int32.lt_iff_toInt_lt, Int32.toInt_sub, nI_toInt (by omega), nI_toInt (by omega)]
        have z : (6 : Int32).toInt = 6 := rfl
        rw [z, Int.bmod_eq_of_le (by omega) (by omega)]
        omega
      refine ⟨h, ?_, by omega, by omega⟩
      rw [s178_18]
      simp [s178_19, s178_20, s178_21, s178_23, s178_24, s178_1183, s178_1184, hal, e, tw_z_1]
    · have e : ¬ nI L - 6 < nI (6 * t) := by
        rw [Int32.lt_iff_toInt_lt, Int32.toInt_sub, nI_toInt (by omega), nI_toInt (by omega)]
        have z : (6 : Int32).toInt = 6 := rfl
        rw [z, Int.bmod_eq_of_le (by omega) (by omega)]
        omega
      have ev := tw_vi_n (show 6 * t < L by omega) (by omega)
      have ec := nI_clamp (show 6 * t < 2 ^ 31 by omega)
      have hia : tw_ia h 0 (nI (6 * t)) = some (.int (xs (6 * t))) := by simp [tw_ia, h0, ev, ec]
      obtain ⟨h2, g1, g2, g3, g4, g5⟩ := l_turn (xs := xs) I h0 hL (show 6 * t + 6 ≤ L by omega) (xs (6 * t) &&& 63)
      obtain ⟨h', k1, k2, k3⟩ := ih (t + 1) h2 (by omega) (by omega) g2 (g3.trans h0)
      have e6 : nI (6 * t) + 6 = nI (6 * (t + 1)) := nI_add (6 * t) 6
      refine ⟨h', ?_, by omega, by omega⟩
      rw [← k1, s178_18]
      simp [s178_19, s178_20, s178_21, s178_23, s178_24, s178_27, s178_28, s178_29, s178_30, s178_32, hal, e, hia, g1, s178_1177, s178_1180, e6]
end LOOP
