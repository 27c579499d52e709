/-! the two new objects -/
theorem tw_nsc (h : tw_H) {a : Nat} (e e' : tw_C) (n : Nat) (ha : a ≠ h.1) : tw_new (tw_set h a e) e' n = tw_set (tw_new h e' n) a e := by
  unfold tw_new tw_set
  refine Prod.ext rfl (Prod.ext rfl ?_)
  funext j
  by_cases hj : j = h.1
  · subst hj
    simp [Ne.symm ha]
  · simp [hj]
theorem t_ok (n : Nat) (h : n ≤ 1000) : tw_ok (nI n) = true := by
  unfold tw_ok
  rw [nI_clamp (by omega)]
  simp [nI_pos' (show n < 2 ^ 31 by omega), h]
def uText (h : tw_H) (a : Nat) : tw_H := tw_set (tw_new (tw_new (tw_new h (iC 6 (fun _ => 0)) 6) (iC 8 (fun _ => 0)) 8) (iC 8 (fun _ => 0)) 8) a (oC 7 [.ref (a + 1), .ref (a + 2), .ref (a + 3), .int 0, .int 0, .int 0, .null, .int 0, .int 0])
def uNotes (h : tw_H) (a : Nat) (m : Nat) : tw_H := tw_set (tw_new (tw_new (tw_new h (iC m (fun _ => 0)) m) (iC m (fun _ => 0)) m) (iC m (fun _ => 0)) m) a (oC 2 [.int 0, .ref (a + 1), .ref (a + 2), .ref (a + 3)])
def uStop (h : tw_H) (a : Nat) : tw_H := tw_set (tw_new (tw_new h (iC 8 (fun _ => 0)) 8) (iC 8 (fun _ => 0)) 8) a (oC 6 [.ref (a + 1), .ref (a + 2)])
def uLate (h : tw_H) (a : Nat) : tw_H := tw_set (tw_new h (iC 8 (fun _ => 0)) 8) a (oC 1 [.ref (a + 1)])
def uSea (h : tw_H) (a : Nat) : tw_H := tw_set (tw_new (uNotes (tw_new h (oC 2 [.int 0, .null, .null, .null]) 4) (a + 1) 6) (iC 6 (fun _ => 0)) 6) a (oC 5 [.ref (a + 1), .int 0, .ref (a + 5)])
section U1
variable {h : tw_H} {a m : Nat}
theorem uText_spec (e1 : h.1 = a + 1) : (uText h a).1 = a + 4 ∧ (uText h a).2.1 = h.2.1 + 22 ∧ (uText h a).2.2 a = some (oC 7 [.ref (a + 1), .ref (a + 2), .ref (a + 3), .int 0, .int 0, .int 0, .null, .int 0, .int 0]) ∧ (∀ x, x < a → (uText h a).2.2 x = h.2.2 x) ∧ (uText h a).2.2 (a + 1) = some (iC 6 (fun _ => 0)) ∧ (uText h a).2.2 (a + 2) = some (iC 8 (fun _ => 0)) ∧ (uText h a).2.2 (a + 3) = some (iC 8 (fun _ => 0)) := by
  unfold uText
  refine ⟨by simp only [tw_sg1, tw_ng1, e1], by simp only [tw_sg2, tw_ng2] <;> omega, by rw [tw_sg, if_pos rfl], fun x hx => ?_, ?_, ?_, ?_⟩
  · simp only [tw_sg, tw_ng, tw_sg1, tw_ng1, e1, show ¬ x = a by omega, show ¬ x = a + 1 by omega, show ¬ x = a + 1 + 1 by omega, show ¬ x = a + 1 + 1 + 1 by omega, if_false]
  · simp only [tw_sg, tw_ng, tw_sg1, tw_ng1, e1, show ¬ a + 1 = a by omega, if_false]
    simp
  · simp only [tw_sg, tw_ng, tw_sg1, tw_ng1, e1, show ¬ a + 2 = a by omega, if_false]
    simp
  · simp only [tw_sg, tw_ng, tw_sg1, tw_ng1, e1, show ¬ a + 3 = a by omega, if_false]
    simp
theorem uNotes_spec (e1 : h.1 = a + 1) : (uNotes h a m).1 = a + 4 ∧ (uNotes h a m).2.1 = h.2.1 + 3 * m ∧ (uNotes h a m).2.2 a = some (oC 2 [.int 0, .ref (a + 1), .ref (a + 2), .ref (a + 3)]) ∧ (∀ x, x < a → (uNotes h a m).2.2 x = h.2.2 x) ∧ (uNotes h a m).2.2 (a + 1) = some (iC m (fun _ => 0)) ∧ (uNotes h a m).2.2 (a + 2) = some (iC m (fun _ => 0)) ∧ (uNotes h a m).2.2 (a + 3) = some (iC m (fun _ => 0)) := by
  unfold uNotes
  refine ⟨by simp only [tw_sg1, tw_ng1, e1], by simp only [tw_sg2, tw_ng2] <;> omega, by rw [tw_sg, if_pos rfl], fun x hx => ?_, ?_, ?_, ?_⟩
  · simp only [tw_sg, tw_ng, tw_sg1, tw_ng1, e1, show ¬ x = a by omega, show ¬ x = a + 1 by omega, show ¬ x = a + 1 + 1 by omega, show ¬ x = a + 1 + 1 + 1 by omega, if_false]
  · simp only [tw_sg, tw_ng, tw_sg1, tw_ng1, e1, show ¬ a + 1 = a by omega, if_false]
    simp
  · simp only [tw_sg, tw_ng, tw_sg1, tw_ng1, e1, show ¬ a + 2 = a by omega, if_false]
    simp
  · simp only [tw_sg, tw_ng, tw_sg1, tw_ng1, e1, show ¬ a + 3 = a by omega, if_false]
    simp
theorem uStop_spec (e1 : h.1 = a + 1) : (uStop h a).1 = a + 3 ∧ (uStop h a).2.1 = h.2.1 + 16 ∧ (uStop h a).2.2 a = some (oC 6 [.ref (a + 1), .ref (a + 2)]) ∧ (∀ x, x < a → (uStop h a).2.2 x = h.2.2 x) ∧ (uStop h a).2.2 (a + 1) = some (iC 8 (fun _ => 0)) ∧ (uStop h a).2.2 (a + 2) = some (iC 8 (fun _ => 0)) := by
  unfold uStop
  refine ⟨by simp only [tw_sg1, tw_ng1, e1], by simp only [tw_sg2, tw_ng2] <;> omega, by rw [tw_sg, if_pos rfl], fun x hx => ?_, ?_, ?_⟩
  · simp only [tw_sg, tw_ng, tw_sg1, tw_ng1, e1, show ¬ x = a by omega, show ¬ x = a + 1 by omega, show ¬ x = a + 1 + 1 by omega, if_false]
  · simp only [tw_sg, tw_ng, tw_sg1, tw_ng1, e1, show ¬ a + 1 = a by omega, if_false]
    simp
  · simp only [tw_sg, tw_ng, tw_sg1, tw_ng1, e1, show ¬ a + 2 = a by omega, if_false]
    simp
theorem uLate_spec (e1 : h.1 = a + 1) : (uLate h a).1 = a + 2 ∧ (uLate h a).2.1 = h.2.1 + 8 ∧ (uLate h a).2.2 a = some (oC 1 [.ref (a + 1)]) ∧ (∀ x, x < a → (uLate h a).2.2 x = h.2.2 x) ∧ (uLate h a).2.2 (a + 1) = some (iC 8 (fun _ => 0)) := by
  unfold uLate
  refine ⟨by simp only [tw_sg1, tw_ng1, e1], by simp only [tw_sg2, tw_ng2] <;> omega, by rw [tw_sg, if_pos rfl], fun x hx => ?_, ?_⟩
  · simp only [tw_sg, tw_ng, tw_sg1, tw_ng1, e1, show ¬ x = a by omega, show ¬ x = a + 1 by omega, if_false]
  · simp only [tw_sg, tw_ng, tw_sg1, tw_ng1, e1, show ¬ a + 1 = a by omega, if_false]
    simp
theorem x_iText (e1 : h.1 = a + 1) (ha : h.2.2 a = some (oC 7 [.null, .null, .null, .int 0, .int 0, .int 0, .null, .int 0, .int 0])) (h0 : a ≠ 0) : tw_b 1 0 [.ref a] [] h = some (none, uText h a) := by
  unfold uText
  simp [s1_0, s1_1, s1_4, s1_5, s1_7, s1_9, s1_12, s1_13, s1_15, s1_17, s1_20, s1_21, s1_23, s1_25, s1_28, h0, ha, e1, tw_gf, tw_sf, tw_sg, tw_sg1, tw_ng, tw_ng1, tw_fit, tw_nsc, tw_ss, show a + 1 + 1 = a + 2 from rfl, show a + 2 + 1 = a + 3 from rfl, show a + 3 + 1 = a + 4 from rfl, show a + 4 + 1 = a + 5 from rfl, show ¬ a = a + 1 by omega, show ¬ a = a + 2 by omega, show ¬ a = a + 3 by omega, show ¬ a = a + 4 by omega, show ¬ a = a + 5 by omega, show tw_ok 4 = true from rfl, show (4 : Int32).toNatClampNeg = 4 from rfl, show tw_ok 6 = true from rfl, show (6 : Int32).toNatClampNeg = 6 from rfl, show tw_ok 8 = true from rfl, show (8 : Int32).toNatClampNeg = 8 from rfl]
theorem x_iStop (e1 : h.1 = a + 1) (ha : h.2.2 a = some (oC 6 [.null, .null])) (h0 : a ≠ 0) : tw_b 5 0 [.ref a] [] h = some (none, uStop h a) := by
  unfold uStop
  simp [s5_0, s5_1, s5_4, s5_5, s5_7, s5_9, s5_12, s5_13, s5_15, s5_17, s5_20, h0, ha, e1, tw_gf, tw_sf, tw_sg, tw_sg1, tw_ng, tw_ng1, tw_fit, tw_nsc, tw_ss, show a + 1 + 1 = a + 2 from rfl, show a + 2 + 1 = a + 3 from rfl, show a + 3 + 1 = a + 4 from rfl, show a + 4 + 1 = a + 5 from rfl, show ¬ a = a + 1 by omega, show ¬ a = a + 2 by omega, show ¬ a = a + 3 by omega, show ¬ a = a + 4 by omega, show ¬ a = a + 5 by omega, show tw_ok 4 = true from rfl, show (4 : Int32).toNatClampNeg = 4 from rfl, show tw_ok 6 = true from rfl, show (6 : Int32).toNatClampNeg = 6 from rfl, show tw_ok 8 = true from rfl, show (8 : Int32).toNatClampNeg = 8 from rfl]
theorem x_iLate (e1 : h.1 = a + 1) (ha : h.2.2 a = some (oC 1 [.null])) (h0 : a ≠ 0) : tw_b 6 0 [.ref a] [] h = some (none, uLate h a) := by
  unfold uLate
  simp [s6_0, s6_1, s6_4, s6_5, s6_7, s6_9, s6_12, h0, ha, e1, tw_gf, tw_sf, tw_sg, tw_sg1, tw_ng, tw_ng1, tw_fit, tw_nsc, tw_ss, show a + 1 + 1 = a + 2 from rfl, show a + 2 + 1 = a + 3 from rfl, show a + 3 + 1 = a + 4 from rfl, show a + 4 + 1 = a + 5 from rfl, show ¬ a = a + 1 by omega, show ¬ a = a + 2 by omega, show ¬ a = a + 3 by omega, show ¬ a = a + 4 by omega, show ¬ a = a + 5 by omega, show tw_ok 4 = true from rfl, show (4 : Int32).toNatClampNeg = 4 from rfl, show tw_ok 6 = true from rfl, show (6 : Int32).toNatClampNeg = 6 from rfl, show tw_ok 8 = true from rfl, show (8 : Int32).toNatClampNeg = 8 from rfl]
theorem x_iNotes (e1 : h.1 = a + 1) (ha : h.2.2 a = some (oC 2 [.int 0, .null, .null, .null])) (h0 : a ≠ 0) (hm : m ≤ 1000) : tw_b 4 0 [.ref a, .int (nI m)] [] h = some (none, uNotes h a m) := by
  have q1 : ¬ nI m < 0 := nI_pos (by omega)
  have q2 := t_ok m hm
  have q3 := nI_clamp (show m < 2 ^ 31 by omega)
  unfold uNotes
  simp [s4_0, s4_1, s4_4, s4_5, s4_6, s4_7, s4_10, s4_12, s4_15, s4_16, s4_17, s4_18, s4_21, s4_23, s4_26, s4_27, s4_28, s4_29, s4_32, s4_34, s4_37, h0, ha, e1, tw_gf, tw_sf, tw_sg, tw_sg1, tw_ng, tw_ng1, tw_fit, tw_nsc, tw_ss, q1, q2, q3, show a + 1 + 1 = a + 2 from rfl, show a + 2 + 1 = a + 3 from rfl, show a + 3 + 1 = a + 4 from rfl, show a + 4 + 1 = a + 5 from rfl, show ¬ a = a + 1 by omega, show ¬ a = a + 2 by omega, show ¬ a = a + 3 by omega, show ¬ a = a + 4 by omega, show ¬ a = a + 5 by omega]
theorem uSea_spec (e1 : h.1 = a + 1) : (uSea h a).1 = a + 6 ∧ (uSea h a).2.1 = h.2.1 + 28 ∧ (uSea h a).2.2 a = some (oC 5 [.ref (a + 1), .int 0, .ref (a + 5)]) ∧ (∀ x, x < a → (uSea h a).2.2 x = h.2.2 x) ∧ (uSea h a).2.2 (a + 1) = some (oC 2 [.int 0, .ref (a + 2), .ref (a + 3), .ref (a + 4)]) ∧ (uSea h a).2.2 (a + 2) = some (iC 6 (fun _ => 0)) ∧ (uSea h a).2.2 (a + 3) = some (iC 6 (fun _ => 0)) ∧ (uSea h a).2.2 (a + 4) = some (iC 6 (fun _ => 0)) ∧ (uSea h a).2.2 (a + 5) = some (iC 6 (fun _ => 0)) := by
  obtain ⟨s1, s2, s3, s4, s5, s6, s7⟩ := uNotes_spec (h := tw_new h (oC 2 [.int 0, .null, .null, .null]) 4) (a := a + 1) (m := 6) (by rw [tw_ng1, e1])
  unfold uSea
  obtain ⟨G, hG⟩ : ∃ G, G = uNotes (tw_new h (oC 2 [.int 0, .null, .null, .null]) 4) (a + 1) 6 := ⟨_, rfl⟩
  rw [← hG] at s1 s2 s3 s4 s5 s6 s7 ⊢
  refine ⟨by rw [tw_sg1, tw_ng1, s1], by rw [tw_sg2, tw_ng2, s2, tw_ng2], by rw [tw_sg, if_pos rfl], fun x hx => ?_, ?_, ?_, ?_, ?_, ?_⟩
  · rw [tw_sg, if_neg (by omega), tw_ng, if_neg (by omega), s4 x (by omega), tw_ng, if_neg (by omega)]
  · rw [tw_sg, if_neg (by omega), tw_ng, if_neg (by omega), s3]
  · rw [tw_sg, if_neg (by omega), tw_ng, if_neg (by omega)]; exact s5
  · rw [tw_sg, if_neg (by omega), tw_ng, if_neg (by omega)]; exact s6
  · rw [tw_sg, if_neg (by omega), tw_ng, if_neg (by omega)]; exact s7
  · rw [tw_sg, if_neg (by omega), tw_ng, if_pos (by omega)]
theorem x_iSea (e1 : h.1 = a + 1) (ha : h.2.2 a = some (oC 5 [.null, .int 0, .null])) (h0 : a ≠ 0) : tw_b 3 0 [.ref a] [] h = some (none, uSea h a) := by
  have en := x_iNotes (h := tw_new h (oC 2 [.int 0, .null, .null, .null]) 4) (a := a + 1) (m := 6) (by rw [tw_ng1, e1]) (by rw [tw_ng, if_pos e1.symm]) (by omega) (by decide)
  obtain ⟨s1, s2, s3, s4, s5, s6, s7⟩ := uNotes_spec (h := tw_new h (oC 2 [.int 0, .null, .null, .null]) 4) (a := a + 1) (m := 6) (by rw [tw_ng1, e1])
  unfold uSea
  obtain ⟨G, hG⟩ : ∃ G, G = uNotes (tw_new h (oC 2 [.int 0, .null, .null, .null]) 4) (a + 1) 6 := ⟨_, rfl⟩
  rw [← hG] at s1 s2 s3 s4 en ⊢
  rw [show nI 6 = 6 from rfl] at en
  have ga : G.2.2 a = some (oC 5 [.null, .int 0, .null]) := by rw [s4 a (by omega), tw_ng, if_neg (by omega)]; exact ha
  have h1 : a + 1 ≠ 0 := by omega
  simp [s3_0, s3_1, s3_4, s3_5, s3_8, s3_9, s3_11, s3_14, s3_17, s3_18, s3_20, s3_22, s3_25, h0, e1, en, ga, s1, tw_gf, tw_sf, tw_sg, tw_sg1, tw_ng, tw_ng1, tw_fit, tw_nsc, tw_ss, show a + 1 + 1 = a + 2 from rfl, show a + 2 + 1 = a + 3 from rfl, show a + 3 + 1 = a + 4 from rfl, show a + 4 + 1 = a + 5 from rfl, show ¬ a = a + 1 by omega, show ¬ a = a + 2 by omega, show ¬ a = a + 3 by omega, show ¬ a = a + 4 by omega, show ¬ a = a + 5 by omega, show tw_ok 4 = true from rfl, show (4 : Int32).toNatClampNeg = 4 from rfl, show tw_ok 6 = true from rfl, show (6 : Int32).toNatClampNeg = 6 from rfl, show tw_ok 8 = true from rfl, show (8 : Int32).toNatClampNeg = 8 from rfl]
end U1
section U2
variable {h : tw_H}
theorem x_iNew (e1 : h.1 = 2) (ha : h.2.2 1 = some (oC 10 [.null, .null, .null, .null, .null, .null, .null, .null, .null, .int 0, .int 0, .int 0, .int 0, .int 0])) : ∃ h', tw_b 0 0 [.ref 1] [] h = some (none, h') ∧ h'.1 = 27 ∧ h'.2.1 ≤ h.2.1 + 200 ∧ h'.2.2 0 = h.2.2 0 ∧ h'.2.2 1 = some (xC 0 0 0 0 0) ∧ h'.2.2 2 = some (rC 1 4 (fun _ => none)) ∧ h'.2.2 3 = some (oC 7 [.ref 4, .ref 5, .ref 6, .int 0, .int 0, .int 0, .null, .int 0, .int 0]) ∧ h'.2.2 4 = some (iC 6 (fun _ => 0)) ∧ h'.2.2 5 = some (iC 8 (fun _ => 0)) ∧ h'.2.2 6 = some (iC 8 (fun _ => 0)) ∧ h'.2.2 7 = some (oC 8 [.int 0]) ∧ h'.2.2 8 = some (oC 5 [.ref 9, .int 0, .ref 13]) ∧ h'.2.2 9 = some (oC 2 [.int 0, .ref 10, .ref 11, .ref 12]) ∧ h'.2.2 10 = some (iC 6 (fun _ => 0)) ∧ h'.2.2 11 = some (iC 6 (fun _ => 0)) ∧ h'.2.2 12 = some (iC 6 (fun _ => 0)) ∧ h'.2.2 13 = some (iC 6 (fun _ => 0)) ∧ h'.2.2 14 = some (oC 2 [.int 0, .ref 15, .ref 16, .ref 17]) ∧ h'.2.2 15 = some (iC 8 (fun _ => 0)) ∧ h'.2.2 16 = some (iC 8 (fun _ => 0)) ∧ h'.2.2 17 = some (iC 8 (fun _ => 0)) ∧ h'.2.2 18 = some (rC 2 8 (fun _ => none)) ∧ h'.2.2 19 = some (oC 6 [.ref 20, .ref 21]) ∧ h'.2.2 20 = some (iC 8 (fun _ => 0)) ∧ h'.2.2 21 = some (iC 8 (fun _ => 0)) ∧ h'.2.2 22 = some (oC 6 [.ref 23, .ref 24]) ∧ h'.2.2 23 = some (iC 8 (fun _ => 0)) ∧ h'.2.2 24 = some (iC 8 (fun _ => 0)) ∧ h'.2.2 25 = some (oC 1 [.ref 26]) ∧ h'.2.2 26 = some (iC 8 (fun _ => 0)) := by
  have n0 := e1
  have g0 := ha
  obtain ⟨H1, hH1⟩ : ∃ H, H = tw_set (tw_new h (rC 1 4 (fun _ => none)) 4) 1 (oC 10 [.ref 2, .null, .null, .null, .null, .null, .null, .null, .null, .int 0, .int 0, .int 0, .int 0, .int 0]) := ⟨_, rfl⟩
  have n1 : H1.1 = 3 := by rw [hH1, tw_sg1, tw_ng1, n0]
  have d1 : H1.2.1 = h.2.1 + 4 := by rw [hH1, tw_sg2, tw_ng2]
  have o1 : ∀ x, x < 2 → x ≠ 1 → H1.2.2 x = h.2.2 x := fun x h1 h2 => by rw [hH1, tw_sg, if_neg h2, tw_ng, if_neg (by omega)]
  have c2 : H1.2.2 2 = some (rC 1 4 (fun _ => none)) := by rw [hH1, tw_sg, if_neg (by decide), tw_ng, if_pos n0.symm]
  have p1 : tw_b 0 0 [.ref 1] [] h = tw_b 0 12 [.ref 1] [] H1 := by
    rw [hH1]
    simp [s0_0, s0_1, s0_4, s0_5, s0_6, s0_9, n0, tw_sf, tw_fit, tw_ng, g0, show tw_ok 4 = true from rfl, show (4 : Int32).toNatClampNeg = 4 from rfl]
  have g1 : H1.2.2 1 = some (oC 10 [.ref 2, .null, .null, .null, .null, .null, .null, .null, .null, .int 0, .int 0, .int 0, .int 0, .int 0]) := by rw [hH1, tw_sg, if_pos rfl]
  have b2 : (tw_new H1 (oC 7 [.null, .null, .null, .int 0, .int 0, .int 0, .null, .int 0, .int 0]) 9).1 = 3 + 1 := by rw [tw_ng1, n1]
  have i2 := x_iText (h := tw_new H1 (oC 7 [.null, .null, .null, .int 0, .int 0, .int 0, .null, .int 0, .int 0]) 9) (a := 3) b2 (by rw [tw_ng, if_pos n1.symm]) (by decide)
  have j2 := uText_spec (h := tw_new H1 (oC 7 [.null, .null, .null, .int 0, .int 0, .int 0, .null, .int 0, .int 0]) 9) (a := 3) b2
  obtain ⟨U2, hU2⟩ : ∃ U, U = uText (tw_new H1 (oC 7 [.null, .null, .null, .int 0, .int 0, .int 0, .null, .int 0, .int 0]) 9) 3 := ⟨_, rfl⟩
  rw [← hU2] at i2 j2
  obtain ⟨H2, hH2⟩ : ∃ H, H = tw_set U2 1 (oC 10 [.ref 2, .ref 3, .null, .null, .null, .null, .null, .null, .null, .int 0, .int 0, .int 0, .int 0, .int 0]) := ⟨_, rfl⟩
  have n2 : H2.1 = 7 := by rw [hH2, tw_sg1, j2.1]
  have d2 : H2.2.1 = H1.2.1 + 9 + 22 := by rw [hH2, tw_sg2, j2.2.1, tw_ng2]
  have o2 : ∀ x, x < 3 → x ≠ 1 → H2.2.2 x = H1.2.2 x := fun x h1 h2 => by rw [hH2, tw_sg, if_neg h2, j2.2.2.2.1 x h1, tw_ng, if_neg (by omega)]
  have u2 : U2.2.2 1 = H1.2.2 1 := by rw [j2.2.2.2.1 1 (by decide), tw_ng, if_neg (by omega)]
  have c3 : H2.2.2 3 = _ := (show H2.2.2 3 = U2.2.2 3 by rw [hH2, tw_sg, if_neg (by decide)]).trans j2.2.2.1
  have c4 : H2.2.2 4 = _ := (show H2.2.2 4 = U2.2.2 4 by rw [hH2, tw_sg, if_neg (by decide)]).trans j2.2.2.2.2.1
  have c5 : H2.2.2 5 = _ := (show H2.2.2 5 = U2.2.2 5 by rw [hH2, tw_sg, if_neg (by decide)]).trans j2.2.2.2.2.2.1
  have c6 : H2.2.2 6 = _ := (show H2.2.2 6 = U2.2.2 6 by rw [hH2, tw_sg, if_neg (by decide)]).trans j2.2.2.2.2.2.2
  have p2 : tw_b 0 12 [.ref 1] [] H1 = tw_b 0 23 [.ref 1] [] H2 := by
    rw [hH2]
    simp [s0_12, s0_13, s0_16, s0_17, s0_20, n1, i2, tw_sf, tw_fit, u2, g1]
  have g2 : H2.2.2 1 = some (oC 10 [.ref 2, .ref 3, .null, .null, .null, .null, .null, .null, .null, .int 0, .int 0, .int 0, .int 0, .int 0]) := by rw [hH2, tw_sg, if_pos rfl]
  obtain ⟨H3, hH3⟩ : ∃ H, H = tw_set (tw_new H2 (oC 8 [.int 0]) 1) 1 (oC 10 [.ref 2, .ref 3, .ref 7, .null, .null, .null, .null, .null, .null, .int 0, .int 0, .int 0, .int 0, .int 0]) := ⟨_, rfl⟩
  have n3 : H3.1 = 8 := by rw [hH3, tw_sg1, tw_ng1, n2]
  have d3 : H3.2.1 = H2.2.1 + 1 := by rw [hH3, tw_sg2, tw_ng2]
  have o3 : ∀ x, x < 7 → x ≠ 1 → H3.2.2 x = H2.2.2 x := fun x h1 h2 => by rw [hH3, tw_sg, if_neg h2, tw_ng, if_neg (by omega)]
  have c7 : H3.2.2 7 = some (oC 8 [.int 0]) := by rw [hH3, tw_sg, if_neg (by decide), tw_ng, if_pos n2.symm]
  have p3 : tw_b 0 23 [.ref 1] [] H2 = tw_b 0 34 [.ref 1] [] H3 := by
    rw [hH3]
    simp [s0_23, s0_24, s0_27, s0_28, s0_31, n2, tw_sf, tw_fit, tw_ng, g2, s2_0, s2_1, s2_4]
  have g3 : H3.2.2 1 = some (oC 10 [.ref 2, .ref 3, .ref 7, .null, .null, .null, .null, .null, .null, .int 0, .int 0, .int 0, .int 0, .int 0]) := by rw [hH3, tw_sg, if_pos rfl]
  have b4 : (tw_new H3 (oC 5 [.null, .int 0, .null]) 3).1 = 8 + 1 := by rw [tw_ng1, n3]
  have i4 := x_iSea (h := tw_new H3 (oC 5 [.null, .int 0, .null]) 3) (a := 8) b4 (by rw [tw_ng, if_pos n3.symm]) (by decide)
  have j4 := uSea_spec (h := tw_new H3 (oC 5 [.null, .int 0, .null]) 3) (a := 8) b4
  obtain ⟨U4, hU4⟩ : ∃ U, U = uSea (tw_new H3 (oC 5 [.null, .int 0, .null]) 3) 8 := ⟨_, rfl⟩
  rw [← hU4] at i4 j4
  obtain ⟨H4, hH4⟩ : ∃ H, H = tw_set U4 1 (oC 10 [.ref 2, .ref 3, .ref 7, .ref 8, .null, .null, .null, .null, .null, .int 0, .int 0, .int 0, .int 0, .int 0]) := ⟨_, rfl⟩
  have n4 : H4.1 = 14 := by rw [hH4, tw_sg1, j4.1]
  have d4 : H4.2.1 = H3.2.1 + 3 + 28 := by rw [hH4, tw_sg2, j4.2.1, tw_ng2]
  have o4 : ∀ x, x < 8 → x ≠ 1 → H4.2.2 x = H3.2.2 x := fun x h1 h2 => by rw [hH4, tw_sg, if_neg h2, j4.2.2.2.1 x h1, tw_ng, if_neg (by omega)]
  have u4 : U4.2.2 1 = H3.2.2 1 := by rw [j4.2.2.2.1 1 (by decide), tw_ng, if_neg (by omega)]
  have c8 : H4.2.2 8 = _ := (show H4.2.2 8 = U4.2.2 8 by rw [hH4, tw_sg, if_neg (by decide)]).trans j4.2.2.1
  have c9 : H4.2.2 9 = _ := (show H4.2.2 9 = U4.2.2 9 by rw [hH4, tw_sg, if_neg (by decide)]).trans j4.2.2.2.2.1
  have c10 : H4.2.2 10 = _ := (show H4.2.2 10 = U4.2.2 10 by rw [hH4, tw_sg, if_neg (by decide)]).trans j4.2.2.2.2.2.1
  have c11 : H4.2.2 11 = _ := (show H4.2.2 11 = U4.2.2 11 by rw [hH4, tw_sg, if_neg (by decide)]).trans j4.2.2.2.2.2.2.1
  have c12 : H4.2.2 12 = _ := (show H4.2.2 12 = U4.2.2 12 by rw [hH4, tw_sg, if_neg (by decide)]).trans j4.2.2.2.2.2.2.2.1
  have c13 : H4.2.2 13 = _ := (show H4.2.2 13 = U4.2.2 13 by rw [hH4, tw_sg, if_neg (by decide)]).trans j4.2.2.2.2.2.2.2.2
  have p4 : tw_b 0 34 [.ref 1] [] H3 = tw_b 0 45 [.ref 1] [] H4 := by
    rw [hH4]
    simp [s0_34, s0_35, s0_38, s0_39, s0_42, n3, i4, tw_sf, tw_fit, u4, g3]
  have g4 : H4.2.2 1 = some (oC 10 [.ref 2, .ref 3, .ref 7, .ref 8, .null, .null, .null, .null, .null, .int 0, .int 0, .int 0, .int 0, .int 0]) := by rw [hH4, tw_sg, if_pos rfl]
  have b5 : (tw_new H4 (oC 2 [.int 0, .null, .null, .null]) 4).1 = 14 + 1 := by rw [tw_ng1, n4]
  have i5 := x_iNotes (h := tw_new H4 (oC 2 [.int 0, .null, .null, .null]) 4) (a := 14) (m := 8) b5 (by rw [tw_ng, if_pos n4.symm]) (by decide) (by decide)
  rw [show nI 8 = 8 from rfl] at i5
  have j5 := uNotes_spec (h := tw_new H4 (oC 2 [.int 0, .null, .null, .null]) 4) (a := 14) (m := 8) b5
  obtain ⟨U5, hU5⟩ : ∃ U, U = uNotes (tw_new H4 (oC 2 [.int 0, .null, .null, .null]) 4) 14 8 := ⟨_, rfl⟩
  rw [← hU5] at i5 j5
  obtain ⟨H5, hH5⟩ : ∃ H, H = tw_set U5 1 (oC 10 [.ref 2, .ref 3, .ref 7, .ref 8, .ref 14, .null, .null, .null, .null, .int 0, .int 0, .int 0, .int 0, .int 0]) := ⟨_, rfl⟩
  have n5 : H5.1 = 18 := by rw [hH5, tw_sg1, j5.1]
  have d5 : H5.2.1 = H4.2.1 + 4 + 24 := by rw [hH5, tw_sg2, j5.2.1, tw_ng2]
  have o5 : ∀ x, x < 14 → x ≠ 1 → H5.2.2 x = H4.2.2 x := fun x h1 h2 => by rw [hH5, tw_sg, if_neg h2, j5.2.2.2.1 x h1, tw_ng, if_neg (by omega)]
  have u5 : U5.2.2 1 = H4.2.2 1 := by rw [j5.2.2.2.1 1 (by decide), tw_ng, if_neg (by omega)]
  have c14 : H5.2.2 14 = _ := (show H5.2.2 14 = U5.2.2 14 by rw [hH5, tw_sg, if_neg (by decide)]).trans j5.2.2.1
  have c15 : H5.2.2 15 = _ := (show H5.2.2 15 = U5.2.2 15 by rw [hH5, tw_sg, if_neg (by decide)]).trans j5.2.2.2.2.1
  have c16 : H5.2.2 16 = _ := (show H5.2.2 16 = U5.2.2 16 by rw [hH5, tw_sg, if_neg (by decide)]).trans j5.2.2.2.2.2.1
  have c17 : H5.2.2 17 = _ := (show H5.2.2 17 = U5.2.2 17 by rw [hH5, tw_sg, if_neg (by decide)]).trans j5.2.2.2.2.2.2
  have p5 : tw_b 0 45 [.ref 1] [] H4 = tw_b 0 58 [.ref 1] [] H5 := by
    rw [hH5]
    simp [s0_45, s0_46, s0_49, s0_50, s0_52, s0_55, n4, i5, tw_sf, tw_fit, u5, g4]
  have g5 : H5.2.2 1 = some (oC 10 [.ref 2, .ref 3, .ref 7, .ref 8, .ref 14, .null, .null, .null, .null, .int 0, .int 0, .int 0, .int 0, .int 0]) := by rw [hH5, tw_sg, if_pos rfl]
  obtain ⟨H6, hH6⟩ : ∃ H, H = tw_set (tw_new H5 (rC 2 8 (fun _ => none)) 8) 1 (oC 10 [.ref 2, .ref 3, .ref 7, .ref 8, .ref 14, .ref 18, .null, .null, .null, .int 0, .int 0, .int 0, .int 0, .int 0]) := ⟨_, rfl⟩
  have n6 : H6.1 = 19 := by rw [hH6, tw_sg1, tw_ng1, n5]
  have d6 : H6.2.1 = H5.2.1 + 8 := by rw [hH6, tw_sg2, tw_ng2]
  have o6 : ∀ x, x < 18 → x ≠ 1 → H6.2.2 x = H5.2.2 x := fun x h1 h2 => by rw [hH6, tw_sg, if_neg h2, tw_ng, if_neg (by omega)]
  have c18 : H6.2.2 18 = some (rC 2 8 (fun _ => none)) := by rw [hH6, tw_sg, if_neg (by decide), tw_ng, if_pos n5.symm]
  have p6 : tw_b 0 58 [.ref 1] [] H5 = tw_b 0 67 [.ref 1] [] H6 := by
    rw [hH6]
    simp [s0_58, s0_59, s0_61, s0_64, n5, tw_sf, tw_fit, tw_ng, g5, show tw_ok 8 = true from rfl, show (8 : Int32).toNatClampNeg = 8 from rfl]
  have g6 : H6.2.2 1 = some (oC 10 [.ref 2, .ref 3, .ref 7, .ref 8, .ref 14, .ref 18, .null, .null, .null, .int 0, .int 0, .int 0, .int 0, .int 0]) := by rw [hH6, tw_sg, if_pos rfl]
  have b7 : (tw_new H6 (oC 6 [.null, .null]) 2).1 = 19 + 1 := by rw [tw_ng1, n6]
  have i7 := x_iStop (h := tw_new H6 (oC 6 [.null, .null]) 2) (a := 19) b7 (by rw [tw_ng, if_pos n6.symm]) (by decide)
  have j7 := uStop_spec (h := tw_new H6 (oC 6 [.null, .null]) 2) (a := 19) b7
  obtain ⟨U7, hU7⟩ : ∃ U, U = uStop (tw_new H6 (oC 6 [.null, .null]) 2) 19 := ⟨_, rfl⟩
  rw [← hU7] at i7 j7
  obtain ⟨H7, hH7⟩ : ∃ H, H = tw_set U7 1 (oC 10 [.ref 2, .ref 3, .ref 7, .ref 8, .ref 14, .ref 18, .ref 19, .null, .null, .int 0, .int 0, .int 0, .int 0, .int 0]) := ⟨_, rfl⟩
  have n7 : H7.1 = 22 := by rw [hH7, tw_sg1, j7.1]
  have d7 : H7.2.1 = H6.2.1 + 2 + 16 := by rw [hH7, tw_sg2, j7.2.1, tw_ng2]
  have o7 : ∀ x, x < 19 → x ≠ 1 → H7.2.2 x = H6.2.2 x := fun x h1 h2 => by rw [hH7, tw_sg, if_neg h2, j7.2.2.2.1 x h1, tw_ng, if_neg (by omega)]
  have u7 : U7.2.2 1 = H6.2.2 1 := by rw [j7.2.2.2.1 1 (by decide), tw_ng, if_neg (by omega)]
  have c19 : H7.2.2 19 = _ := (show H7.2.2 19 = U7.2.2 19 by rw [hH7, tw_sg, if_neg (by decide)]).trans j7.2.2.1
  have c20 : H7.2.2 20 = _ := (show H7.2.2 20 = U7.2.2 20 by rw [hH7, tw_sg, if_neg (by decide)]).trans j7.2.2.2.2.1
  have c21 : H7.2.2 21 = _ := (show H7.2.2 21 = U7.2.2 21 by rw [hH7, tw_sg, if_neg (by decide)]).trans j7.2.2.2.2.2
  have p7 : tw_b 0 67 [.ref 1] [] H6 = tw_b 0 78 [.ref 1] [] H7 := by
    rw [hH7]
    simp [s0_67, s0_68, s0_71, s0_72, s0_75, n6, i7, tw_sf, tw_fit, u7, g6]
  have g7 : H7.2.2 1 = some (oC 10 [.ref 2, .ref 3, .ref 7, .ref 8, .ref 14, .ref 18, .ref 19, .null, .null, .int 0, .int 0, .int 0, .int 0, .int 0]) := by rw [hH7, tw_sg, if_pos rfl]
  have b8 : (tw_new H7 (oC 6 [.null, .null]) 2).1 = 22 + 1 := by rw [tw_ng1, n7]
  have i8 := x_iStop (h := tw_new H7 (oC 6 [.null, .null]) 2) (a := 22) b8 (by rw [tw_ng, if_pos n7.symm]) (by decide)
  have j8 := uStop_spec (h := tw_new H7 (oC 6 [.null, .null]) 2) (a := 22) b8
  obtain ⟨U8, hU8⟩ : ∃ U, U = uStop (tw_new H7 (oC 6 [.null, .null]) 2) 22 := ⟨_, rfl⟩
  rw [← hU8] at i8 j8
  obtain ⟨H8, hH8⟩ : ∃ H, H = tw_set U8 1 (oC 10 [.ref 2, .ref 3, .ref 7, .ref 8, .ref 14, .ref 18, .ref 19, .ref 22, .null, .int 0, .int 0, .int 0, .int 0, .int 0]) := ⟨_, rfl⟩
  have n8 : H8.1 = 25 := by rw [hH8, tw_sg1, j8.1]
  have d8 : H8.2.1 = H7.2.1 + 2 + 16 := by rw [hH8, tw_sg2, j8.2.1, tw_ng2]
  have o8 : ∀ x, x < 22 → x ≠ 1 → H8.2.2 x = H7.2.2 x := fun x h1 h2 => by rw [hH8, tw_sg, if_neg h2, j8.2.2.2.1 x h1, tw_ng, if_neg (by omega)]
  have u8 : U8.2.2 1 = H7.2.2 1 := by rw [j8.2.2.2.1 1 (by decide), tw_ng, if_neg (by omega)]
  have c22 : H8.2.2 22 = _ := (show H8.2.2 22 = U8.2.2 22 by rw [hH8, tw_sg, if_neg (by decide)]).trans j8.2.2.1
  have c23 : H8.2.2 23 = _ := (show H8.2.2 23 = U8.2.2 23 by rw [hH8, tw_sg, if_neg (by decide)]).trans j8.2.2.2.2.1
  have c24 : H8.2.2 24 = _ := (show H8.2.2 24 = U8.2.2 24 by rw [hH8, tw_sg, if_neg (by decide)]).trans j8.2.2.2.2.2
  have p8 : tw_b 0 78 [.ref 1] [] H7 = tw_b 0 89 [.ref 1] [] H8 := by
    rw [hH8]
    simp [s0_78, s0_79, s0_82, s0_83, s0_86, n7, i8, tw_sf, tw_fit, u8, g7]
  have g8 : H8.2.2 1 = some (oC 10 [.ref 2, .ref 3, .ref 7, .ref 8, .ref 14, .ref 18, .ref 19, .ref 22, .null, .int 0, .int 0, .int 0, .int 0, .int 0]) := by rw [hH8, tw_sg, if_pos rfl]
  have b9 : (tw_new H8 (oC 1 [.null]) 1).1 = 25 + 1 := by rw [tw_ng1, n8]
  have i9 := x_iLate (h := tw_new H8 (oC 1 [.null]) 1) (a := 25) b9 (by rw [tw_ng, if_pos n8.symm]) (by decide)
  have j9 := uLate_spec (h := tw_new H8 (oC 1 [.null]) 1) (a := 25) b9
  obtain ⟨U9, hU9⟩ : ∃ U, U = uLate (tw_new H8 (oC 1 [.null]) 1) 25 := ⟨_, rfl⟩
  rw [← hU9] at i9 j9
  obtain ⟨H9, hH9⟩ : ∃ H, H = tw_set U9 1 (oC 10 [.ref 2, .ref 3, .ref 7, .ref 8, .ref 14, .ref 18, .ref 19, .ref 22, .ref 25, .int 0, .int 0, .int 0, .int 0, .int 0]) := ⟨_, rfl⟩
  have n9 : H9.1 = 27 := by rw [hH9, tw_sg1, j9.1]
  have d9 : H9.2.1 = H8.2.1 + 1 + 8 := by rw [hH9, tw_sg2, j9.2.1, tw_ng2]
  have o9 : ∀ x, x < 25 → x ≠ 1 → H9.2.2 x = H8.2.2 x := fun x h1 h2 => by rw [hH9, tw_sg, if_neg h2, j9.2.2.2.1 x h1, tw_ng, if_neg (by omega)]
  have u9 : U9.2.2 1 = H8.2.2 1 := by rw [j9.2.2.2.1 1 (by decide), tw_ng, if_neg (by omega)]
  have c25 : H9.2.2 25 = _ := (show H9.2.2 25 = U9.2.2 25 by rw [hH9, tw_sg, if_neg (by decide)]).trans j9.2.2.1
  have c26 : H9.2.2 26 = _ := (show H9.2.2 26 = U9.2.2 26 by rw [hH9, tw_sg, if_neg (by decide)]).trans j9.2.2.2.2
  have p9 : tw_b 0 89 [.ref 1] [] H8 = tw_b 0 100 [.ref 1] [] H9 := by
    rw [hH9]
    simp [s0_89, s0_90, s0_93, s0_94, s0_97, n8, i9, tw_sf, tw_fit, u9, g8]
  have g9 : H9.2.2 1 = some (oC 10 [.ref 2, .ref 3, .ref 7, .ref 8, .ref 14, .ref 18, .ref 19, .ref 22, .ref 25, .int 0, .int 0, .int 0, .int 0, .int 0]) := by rw [hH9, tw_sg, if_pos rfl]
  refine ⟨H9, ?_, n9, by omega, by rw [o9 0 (by decide) (by decide), o8 0 (by decide) (by decide), o7 0 (by decide) (by decide), o6 0 (by decide) (by decide), o5 0 (by decide) (by decide), o4 0 (by decide) (by decide), o3 0 (by decide) (by decide), o2 0 (by decide) (by decide), o1 0 (by decide) (by decide)], g9, by rw [o9 2 (by decide) (by decide), o8 2 (by decide) (by decide), o7 2 (by decide) (by decide), o6 2 (by decide) (by decide), o5 2 (by decide) (by decide), o4 2 (by decide) (by decide), o3 2 (by decide) (by decide), o2 2 (by decide) (by decide)]; exact c2, by rw [o9 3 (by decide) (by decide), o8 3 (by decide) (by decide), o7 3 (by decide) (by decide), o6 3 (by decide) (by decide), o5 3 (by decide) (by decide), o4 3 (by decide) (by decide), o3 3 (by decide) (by decide)]; exact c3, by rw [o9 4 (by decide) (by decide), o8 4 (by decide) (by decide), o7 4 (by decide) (by decide), o6 4 (by decide) (by decide), o5 4 (by decide) (by decide), o4 4 (by decide) (by decide), o3 4 (by decide) (by decide)]; exact c4, by rw [o9 5 (by decide) (by decide), o8 5 (by decide) (by decide), o7 5 (by decide) (by decide), o6 5 (by decide) (by decide), o5 5 (by decide) (by decide), o4 5 (by decide) (by decide), o3 5 (by decide) (by decide)]; exact c5, by rw [o9 6 (by decide) (by decide), o8 6 (by decide) (by decide), o7 6 (by decide) (by decide), o6 6 (by decide) (by decide), o5 6 (by decide) (by decide), o4 6 (by decide) (by decide), o3 6 (by decide) (by decide)]; exact c6, by rw [o9 7 (by decide) (by decide), o8 7 (by decide) (by decide), o7 7 (by decide) (by decide), o6 7 (by decide) (by decide), o5 7 (by decide) (by decide), o4 7 (by decide) (by decide)]; exact c7, by rw [o9 8 (by decide) (by decide), o8 8 (by decide) (by decide), o7 8 (by decide) (by decide), o6 8 (by decide) (by decide), o5 8 (by decide) (by decide)]; exact c8, by rw [o9 9 (by decide) (by decide), o8 9 (by decide) (by decide), o7 9 (by decide) (by decide), o6 9 (by decide) (by decide), o5 9 (by decide) (by decide)]; exact c9, by rw [o9 10 (by decide) (by decide), o8 10 (by decide) (by decide), o7 10 (by decide) (by decide), o6 10 (by decide) (by decide), o5 10 (by decide) (by decide)]; exact c10, by rw [o9 11 (by decide) (by decide), o8 11 (by decide) (by decide), o7 11 (by decide) (by decide), o6 11 (by decide) (by decide), o5 11 (by decide) (by decide)]; exact c11, by rw [o9 12 (by decide) (by decide), o8 12 (by decide) (by decide), o7 12 (by decide) (by decide), o6 12 (by decide) (by decide), o5 12 (by decide) (by decide)]; exact c12, by rw [o9 13 (by decide) (by decide), o8 13 (by decide) (by decide), o7 13 (by decide) (by decide), o6 13 (by decide) (by decide), o5 13 (by decide) (by decide)]; exact c13, by rw [o9 14 (by decide) (by decide), o8 14 (by decide) (by decide), o7 14 (by decide) (by decide), o6 14 (by decide) (by decide)]; exact c14, by rw [o9 15 (by decide) (by decide), o8 15 (by decide) (by decide), o7 15 (by decide) (by decide), o6 15 (by decide) (by decide)]; exact c15, by rw [o9 16 (by decide) (by decide), o8 16 (by decide) (by decide), o7 16 (by decide) (by decide), o6 16 (by decide) (by decide)]; exact c16, by rw [o9 17 (by decide) (by decide), o8 17 (by decide) (by decide), o7 17 (by decide) (by decide), o6 17 (by decide) (by decide)]; exact c17, by rw [o9 18 (by decide) (by decide), o8 18 (by decide) (by decide), o7 18 (by decide) (by decide)]; exact c18, by rw [o9 19 (by decide) (by decide), o8 19 (by decide) (by decide)]; exact c19, by rw [o9 20 (by decide) (by decide), o8 20 (by decide) (by decide)]; exact c20, by rw [o9 21 (by decide) (by decide), o8 21 (by decide) (by decide)]; exact c21, by rw [o9 22 (by decide) (by decide)]; exact c22, by rw [o9 23 (by decide) (by decide)]; exact c23, by rw [o9 24 (by decide) (by decide)]; exact c24, c25, c26⟩
  rw [p1, p2, p3, p4, p5, p6, p7, p8, p9]
  simp [s0_100]
theorem m_iNew (e1 : h.1 = 28) (ha : h.2.2 27 = some (oC 11 [.int 0, .int 0, .null, .int 0, .null, .null, .int 0, .int 0, .int 0, .int 0, .int 0, .int 0, .int 0, .null, .null, .null, .int 0, .null, .null, .null, .int 0, .null, .null, .null, .null, .null, .null, .null, .int 0])) : ∃ h', tw_b 108 0 [.ref 27, tw_un] [] h = some (none, h') ∧ h'.1 = 44 ∧ h'.2.1 ≤ h.2.1 + 500 ∧ (∀ x, x < 27 → h'.2.2 x = h.2.2 x) ∧ h'.2.2 27 = some (mC 0 0 0 0 0 0 (-9) 0 0 0 0 0 0) ∧ h'.2.2 28 = some (iC 6 (fun _ => 0)) ∧ h'.2.2 29 = some (iC 8 (fun _ => 0)) ∧ h'.2.2 30 = some (iC 8 (fun _ => 0)) ∧ h'.2.2 31 = some (iC 6 (fun _ => 0)) ∧ h'.2.2 32 = some (iC 8 (fun _ => 0)) ∧ h'.2.2 33 = some (iC 8 (fun _ => 0)) ∧ h'.2.2 34 = some (iC 7 (fun _ => 0)) ∧ h'.2.2 35 = some (iC 7 (fun _ => 0)) ∧ h'.2.2 36 = some (iC 8 (fun _ => 0)) ∧ h'.2.2 37 = some (iC 8 (fun _ => 0)) ∧ h'.2.2 38 = some (iC 8 (fun _ => 0)) ∧ h'.2.2 39 = some (iC 8 (fun _ => 0)) ∧ h'.2.2 40 = some (iC 4 (fset (fun _ => 0) (fun _ => -1) 4)) ∧ h'.2.2 41 = some (iC 4 (fun _ => 0)) ∧ h'.2.2 42 = some (iC 240 (fun _ => 0)) ∧ h'.2.2 43 = some (iC 60 (fun _ => 0)) := by
  have n0 := e1
  have g0 := ha
  obtain ⟨H1, hH1⟩ : ∃ H, H = tw_set (tw_new h (iC 6 (fun _ => 0)) 6) 27 (oC 11 [.int 0, .int 0, .ref 28, .int 0, .null, .null, .int 0, .int 0, .int 0, .int 0, .int 0, .int 0, .int 0, .null, .null, .null, .int 0, .null, .null, .null, .int 0, .null, .null, .null, .null, .null, .null, .null, .int 0]) := ⟨_, rfl⟩
  have n1 : H1.1 = 29 := by rw [hH1, tw_sg1, tw_ng1, n0]
  have d1 : H1.2.1 = h.2.1 + 6 := by rw [hH1, tw_sg2, tw_ng2]
  have o1 : ∀ x, x < 28 → x ≠ 27 → H1.2.2 x = h.2.2 x := fun x h1 h2 => by rw [hH1, tw_sg, if_neg h2, tw_ng, if_neg (by omega)]
  have c28 : H1.2.2 28 = some (iC 6 (fun _ => 0)) := by rw [hH1, tw_sg, if_neg (by decide), tw_ng, if_pos n0.symm]
  have p1 : tw_b 108 0 [.ref 27, tw_un] [] h = tw_b 108 12 [.ref 27, tw_un] [] H1 := by
    rw [hH1]
    simp [s108_0, s108_1, s108_4, s108_5, s108_7, s108_9, n0, tw_sf, tw_fit, tw_ng, g0, show tw_ok 6 = true from rfl, show (6 : Int32).toNatClampNeg = 6 from rfl]
  have g1 : H1.2.2 27 = some (oC 11 [.int 0, .int 0, .ref 28, .int 0, .null, .null, .int 0, .int 0, .int 0, .int 0, .int 0, .int 0, .int 0, .null, .null, .null, .int 0, .null, .null, .null, .int 0, .null, .null, .null, .null, .null, .null, .null, .int 0]) := by rw [hH1, tw_sg, if_pos rfl]
  obtain ⟨H2, hH2⟩ : ∃ H, H = tw_set (tw_new H1 (iC 8 (fun _ => 0)) 8) 27 (oC 11 [.int 0, .int 0, .ref 28, .int 0, .ref 29, .null, .int 0, .int 0, .int 0, .int 0, .int 0, .int 0, .int 0, .null, .null, .null, .int 0, .null, .null, .null, .int 0, .null, .null, .null, .null, .null, .null, .null, .int 0]) := ⟨_, rfl⟩
  have n2 : H2.1 = 30 := by rw [hH2, tw_sg1, tw_ng1, n1]
  have d2 : H2.2.1 = H1.2.1 + 8 := by rw [hH2, tw_sg2, tw_ng2]
  have o2 : ∀ x, x < 29 → x ≠ 27 → H2.2.2 x = H1.2.2 x := fun x h1 h2 => by rw [hH2, tw_sg, if_neg h2, tw_ng, if_neg (by omega)]
  have c29 : H2.2.2 29 = some (iC 8 (fun _ => 0)) := by rw [hH2, tw_sg, if_neg (by decide), tw_ng, if_pos n1.symm]
  have p2 : tw_b 108 12 [.ref 27, tw_un] [] H1 = tw_b 108 20 [.ref 27, tw_un] [] H2 := by
    rw [hH2]
    simp [s108_12, s108_13, s108_15, s108_17, n1, tw_sf, tw_fit, tw_ng, g1, show tw_ok 8 = true from rfl, show (8 : Int32).toNatClampNeg = 8 from rfl]
  have g2 : H2.2.2 27 = some (oC 11 [.int 0, .int 0, .ref 28, .int 0, .ref 29, .null, .int 0, .int 0, .int 0, .int 0, .int 0, .int 0, .int 0, .null, .null, .null, .int 0, .null, .null, .null, .int 0, .null, .null, .null, .null, .null, .null, .null, .int 0]) := by rw [hH2, tw_sg, if_pos rfl]
  obtain ⟨H3, hH3⟩ : ∃ H, H = tw_set (tw_new H2 (iC 8 (fun _ => 0)) 8) 27 (oC 11 [.int 0, .int 0, .ref 28, .int 0, .ref 29, .ref 30, .int 0, .int 0, .int 0, .int 0, .int 0, .int 0, .int 0, .null, .null, .null, .int 0, .null, .null, .null, .int 0, .null, .null, .null, .null, .null, .null, .null, .int 0]) := ⟨_, rfl⟩
  have n3 : H3.1 = 31 := by rw [hH3, tw_sg1, tw_ng1, n2]
  have d3 : H3.2.1 = H2.2.1 + 8 := by rw [hH3, tw_sg2, tw_ng2]
  have o3 : ∀ x, x < 30 → x ≠ 27 → H3.2.2 x = H2.2.2 x := fun x h1 h2 => by rw [hH3, tw_sg, if_neg h2, tw_ng, if_neg (by omega)]
  have c30 : H3.2.2 30 = some (iC 8 (fun _ => 0)) := by rw [hH3, tw_sg, if_neg (by decide), tw_ng, if_pos n2.symm]
  have p3 : tw_b 108 20 [.ref 27, tw_un] [] H2 = tw_b 108 28 [.ref 27, tw_un] [] H3 := by
    rw [hH3]
    simp [s108_20, s108_21, s108_23, s108_25, n2, tw_sf, tw_fit, tw_ng, g2, show tw_ok 8 = true from rfl, show (8 : Int32).toNatClampNeg = 8 from rfl]
  have g3 : H3.2.2 27 = some (oC 11 [.int 0, .int 0, .ref 28, .int 0, .ref 29, .ref 30, .int 0, .int 0, .int 0, .int 0, .int 0, .int 0, .int 0, .null, .null, .null, .int 0, .null, .null, .null, .int 0, .null, .null, .null, .null, .null, .null, .null, .int 0]) := by rw [hH3, tw_sg, if_pos rfl]
  obtain ⟨H4, hH4⟩ : ∃ H, H = tw_set (tw_new H3 (iC 6 (fun _ => 0)) 6) 27 (oC 11 [.int 0, .int 0, .ref 28, .int 0, .ref 29, .ref 30, .int 0, .int 0, .int 0, .int 0, .int 0, .int 0, .int 0, .ref 31, .null, .null, .int 0, .null, .null, .null, .int 0, .null, .null, .null, .null, .null, .null, .null, .int 0]) := ⟨_, rfl⟩
  have n4 : H4.1 = 32 := by rw [hH4, tw_sg1, tw_ng1, n3]
  have d4 : H4.2.1 = H3.2.1 + 6 := by rw [hH4, tw_sg2, tw_ng2]
  have o4 : ∀ x, x < 31 → x ≠ 27 → H4.2.2 x = H3.2.2 x := fun x h1 h2 => by rw [hH4, tw_sg, if_neg h2, tw_ng, if_neg (by omega)]
  have c31 : H4.2.2 31 = some (iC 6 (fun _ => 0)) := by rw [hH4, tw_sg, if_neg (by decide), tw_ng, if_pos n3.symm]
  have p4 : tw_b 108 28 [.ref 27, tw_un] [] H3 = tw_b 108 36 [.ref 27, tw_un] [] H4 := by
    rw [hH4]
    simp [s108_28, s108_29, s108_31, s108_33, n3, tw_sf, tw_fit, tw_ng, g3, show tw_ok 6 = true from rfl, show (6 : Int32).toNatClampNeg = 6 from rfl]
  have g4 : H4.2.2 27 = some (oC 11 [.int 0, .int 0, .ref 28, .int 0, .ref 29, .ref 30, .int 0, .int 0, .int 0, .int 0, .int 0, .int 0, .int 0, .ref 31, .null, .null, .int 0, .null, .null, .null, .int 0, .null, .null, .null, .null, .null, .null, .null, .int 0]) := by rw [hH4, tw_sg, if_pos rfl]
  obtain ⟨H5, hH5⟩ : ∃ H, H = tw_set (tw_new H4 (iC 8 (fun _ => 0)) 8) 27 (oC 11 [.int 0, .int 0, .ref 28, .int 0, .ref 29, .ref 30, .int 0, .int 0, .int 0, .int 0, .int 0, .int 0, .int 0, .ref 31, .ref 32, .null, .int 0, .null, .null, .null, .int 0, .null, .null, .null, .null, .null, .null, .null, .int 0]) := ⟨_, rfl⟩
  have n5 : H5.1 = 33 := by rw [hH5, tw_sg1, tw_ng1, n4]
  have d5 : H5.2.1 = H4.2.1 + 8 := by rw [hH5, tw_sg2, tw_ng2]
  have o5 : ∀ x, x < 32 → x ≠ 27 → H5.2.2 x = H4.2.2 x := fun x h1 h2 => by rw [hH5, tw_sg, if_neg h2, tw_ng, if_neg (by omega)]
  have c32 : H5.2.2 32 = some (iC 8 (fun _ => 0)) := by rw [hH5, tw_sg, if_neg (by decide), tw_ng, if_pos n4.symm]
  have p5 : tw_b 108 36 [.ref 27, tw_un] [] H4 = tw_b 108 44 [.ref 27, tw_un] [] H5 := by
    rw [hH5]
    simp [s108_36, s108_37, s108_39, s108_41, n4, tw_sf, tw_fit, tw_ng, g4, show tw_ok 8 = true from rfl, show (8 : Int32).toNatClampNeg = 8 from rfl]
  have g5 : H5.2.2 27 = some (oC 11 [.int 0, .int 0, .ref 28, .int 0, .ref 29, .ref 30, .int 0, .int 0, .int 0, .int 0, .int 0, .int 0, .int 0, .ref 31, .ref 32, .null, .int 0, .null, .null, .null, .int 0, .null, .null, .null, .null, .null, .null, .null, .int 0]) := by rw [hH5, tw_sg, if_pos rfl]
  obtain ⟨H6, hH6⟩ : ∃ H, H = tw_set (tw_new H5 (iC 8 (fun _ => 0)) 8) 27 (oC 11 [.int 0, .int 0, .ref 28, .int 0, .ref 29, .ref 30, .int 0, .int 0, .int 0, .int 0, .int 0, .int 0, .int 0, .ref 31, .ref 32, .ref 33, .int 0, .null, .null, .null, .int 0, .null, .null, .null, .null, .null, .null, .null, .int 0]) := ⟨_, rfl⟩
  have n6 : H6.1 = 34 := by rw [hH6, tw_sg1, tw_ng1, n5]
  have d6 : H6.2.1 = H5.2.1 + 8 := by rw [hH6, tw_sg2, tw_ng2]
  have o6 : ∀ x, x < 33 → x ≠ 27 → H6.2.2 x = H5.2.2 x := fun x h1 h2 => by rw [hH6, tw_sg, if_neg h2, tw_ng, if_neg (by omega)]
  have c33 : H6.2.2 33 = some (iC 8 (fun _ => 0)) := by rw [hH6, tw_sg, if_neg (by decide), tw_ng, if_pos n5.symm]
  have p6 : tw_b 108 44 [.ref 27, tw_un] [] H5 = tw_b 108 52 [.ref 27, tw_un] [] H6 := by
    rw [hH6]
    simp [s108_44, s108_45, s108_47, s108_49, n5, tw_sf, tw_fit, tw_ng, g5, show tw_ok 8 = true from rfl, show (8 : Int32).toNatClampNeg = 8 from rfl]
  have g6 : H6.2.2 27 = some (oC 11 [.int 0, .int 0, .ref 28, .int 0, .ref 29, .ref 30, .int 0, .int 0, .int 0, .int 0, .int 0, .int 0, .int 0, .ref 31, .ref 32, .ref 33, .int 0, .null, .null, .null, .int 0, .null, .null, .null, .null, .null, .null, .null, .int 0]) := by rw [hH6, tw_sg, if_pos rfl]
  obtain ⟨H7, hH7⟩ : ∃ H, H = tw_set (tw_new H6 (iC 7 (fun _ => 0)) 7) 27 (oC 11 [.int 0, .int 0, .ref 28, .int 0, .ref 29, .ref 30, .int 0, .int 0, .int 0, .int 0, .int 0, .int 0, .int 0, .ref 31, .ref 32, .ref 33, .int 0, .ref 34, .null, .null, .int 0, .null, .null, .null, .null, .null, .null, .null, .int 0]) := ⟨_, rfl⟩
  have n7 : H7.1 = 35 := by rw [hH7, tw_sg1, tw_ng1, n6]
  have d7 : H7.2.1 = H6.2.1 + 7 := by rw [hH7, tw_sg2, tw_ng2]
  have o7 : ∀ x, x < 34 → x ≠ 27 → H7.2.2 x = H6.2.2 x := fun x h1 h2 => by rw [hH7, tw_sg, if_neg h2, tw_ng, if_neg (by omega)]
  have c34 : H7.2.2 34 = some (iC 7 (fun _ => 0)) := by rw [hH7, tw_sg, if_neg (by decide), tw_ng, if_pos n6.symm]
  have p7 : tw_b 108 52 [.ref 27, tw_un] [] H6 = tw_b 108 60 [.ref 27, tw_un] [] H7 := by
    rw [hH7]
    simp [s108_52, s108_53, s108_55, s108_57, n6, tw_sf, tw_fit, tw_ng, g6, show tw_ok 7 = true from rfl, show (7 : Int32).toNatClampNeg = 7 from rfl]
  have g7 : H7.2.2 27 = some (oC 11 [.int 0, .int 0, .ref 28, .int 0, .ref 29, .ref 30, .int 0, .int 0, .int 0, .int 0, .int 0, .int 0, .int 0, .ref 31, .ref 32, .ref 33, .int 0, .ref 34, .null, .null, .int 0, .null, .null, .null, .null, .null, .null, .null, .int 0]) := by rw [hH7, tw_sg, if_pos rfl]
  obtain ⟨H8, hH8⟩ : ∃ H, H = tw_set (tw_new H7 (iC 7 (fun _ => 0)) 7) 27 (oC 11 [.int 0, .int 0, .ref 28, .int 0, .ref 29, .ref 30, .int 0, .int 0, .int 0, .int 0, .int 0, .int 0, .int 0, .ref 31, .ref 32, .ref 33, .int 0, .ref 34, .ref 35, .null, .int 0, .null, .null, .null, .null, .null, .null, .null, .int 0]) := ⟨_, rfl⟩
  have n8 : H8.1 = 36 := by rw [hH8, tw_sg1, tw_ng1, n7]
  have d8 : H8.2.1 = H7.2.1 + 7 := by rw [hH8, tw_sg2, tw_ng2]
  have o8 : ∀ x, x < 35 → x ≠ 27 → H8.2.2 x = H7.2.2 x := fun x h1 h2 => by rw [hH8, tw_sg, if_neg h2, tw_ng, if_neg (by omega)]
  have c35 : H8.2.2 35 = some (iC 7 (fun _ => 0)) := by rw [hH8, tw_sg, if_neg (by decide), tw_ng, if_pos n7.symm]
  have p8 : tw_b 108 60 [.ref 27, tw_un] [] H7 = tw_b 108 68 [.ref 27, tw_un] [] H8 := by
    rw [hH8]
    simp [s108_60, s108_61, s108_63, s108_65, n7, tw_sf, tw_fit, tw_ng, g7, show tw_ok 7 = true from rfl, show (7 : Int32).toNatClampNeg = 7 from rfl]
  have g8 : H8.2.2 27 = some (oC 11 [.int 0, .int 0, .ref 28, .int 0, .ref 29, .ref 30, .int 0, .int 0, .int 0, .int 0, .int 0, .int 0, .int 0, .ref 31, .ref 32, .ref 33, .int 0, .ref 34, .ref 35, .null, .int 0, .null, .null, .null, .null, .null, .null, .null, .int 0]) := by rw [hH8, tw_sg, if_pos rfl]
  obtain ⟨H9, hH9⟩ : ∃ H, H = tw_set (tw_new H8 (iC 8 (fun _ => 0)) 8) 27 (oC 11 [.int 0, .int 0, .ref 28, .int 0, .ref 29, .ref 30, .int 0, .int 0, .int 0, .int 0, .int 0, .int 0, .int 0, .ref 31, .ref 32, .ref 33, .int 0, .ref 34, .ref 35, .ref 36, .int 0, .null, .null, .null, .null, .null, .null, .null, .int 0]) := ⟨_, rfl⟩
  have n9 : H9.1 = 37 := by rw [hH9, tw_sg1, tw_ng1, n8]
  have d9 : H9.2.1 = H8.2.1 + 8 := by rw [hH9, tw_sg2, tw_ng2]
  have o9 : ∀ x, x < 36 → x ≠ 27 → H9.2.2 x = H8.2.2 x := fun x h1 h2 => by rw [hH9, tw_sg, if_neg h2, tw_ng, if_neg (by omega)]
  have c36 : H9.2.2 36 = some (iC 8 (fun _ => 0)) := by rw [hH9, tw_sg, if_neg (by decide), tw_ng, if_pos n8.symm]
  have p9 : tw_b 108 68 [.ref 27, tw_un] [] H8 = tw_b 108 76 [.ref 27, tw_un] [] H9 := by
    rw [hH9]
    simp [s108_68, s108_69, s108_71, s108_73, n8, tw_sf, tw_fit, tw_ng, g8, show tw_ok 8 = true from rfl, show (8 : Int32).toNatClampNeg = 8 from rfl]
  have g9 : H9.2.2 27 = some (oC 11 [.int 0, .int 0, .ref 28, .int 0, .ref 29, .ref 30, .int 0, .int 0, .int 0, .int 0, .int 0, .int 0, .int 0, .ref 31, .ref 32, .ref 33, .int 0, .ref 34, .ref 35, .ref 36, .int 0, .null, .null, .null, .null, .null, .null, .null, .int 0]) := by rw [hH9, tw_sg, if_pos rfl]
  obtain ⟨H10, hH10⟩ : ∃ H, H = tw_set (tw_new H9 (iC 8 (fun _ => 0)) 8) 27 (oC 11 [.int 0, .int 0, .ref 28, .int 0, .ref 29, .ref 30, .int 0, .int 0, .int 0, .int 0, .int 0, .int 0, .int 0, .ref 31, .ref 32, .ref 33, .int 0, .ref 34, .ref 35, .ref 36, .int 0, .ref 37, .null, .null, .null, .null, .null, .null, .int 0]) := ⟨_, rfl⟩
  have n10 : H10.1 = 38 := by rw [hH10, tw_sg1, tw_ng1, n9]
  have d10 : H10.2.1 = H9.2.1 + 8 := by rw [hH10, tw_sg2, tw_ng2]
  have o10 : ∀ x, x < 37 → x ≠ 27 → H10.2.2 x = H9.2.2 x := fun x h1 h2 => by rw [hH10, tw_sg, if_neg h2, tw_ng, if_neg (by omega)]
  have c37 : H10.2.2 37 = some (iC 8 (fun _ => 0)) := by rw [hH10, tw_sg, if_neg (by decide), tw_ng, if_pos n9.symm]
  have p10 : tw_b 108 76 [.ref 27, tw_un] [] H9 = tw_b 108 84 [.ref 27, tw_un] [] H10 := by
    rw [hH10]
    simp [s108_76, s108_77, s108_79, s108_81, n9, tw_sf, tw_fit, tw_ng, g9, show tw_ok 8 = true from rfl, show (8 : Int32).toNatClampNeg = 8 from rfl]
  have g10 : H10.2.2 27 = some (oC 11 [.int 0, .int 0, .ref 28, .int 0, .ref 29, .ref 30, .int 0, .int 0, .int 0, .int 0, .int 0, .int 0, .int 0, .ref 31, .ref 32, .ref 33, .int 0, .ref 34, .ref 35, .ref 36, .int 0, .ref 37, .null, .null, .null, .null, .null, .null, .int 0]) := by rw [hH10, tw_sg, if_pos rfl]
  obtain ⟨H11, hH11⟩ : ∃ H, H = tw_set (tw_new H10 (iC 8 (fun _ => 0)) 8) 27 (oC 11 [.int 0, .int 0, .ref 28, .int 0, .ref 29, .ref 30, .int 0, .int 0, .int 0, .int 0, .int 0, .int 0, .int 0, .ref 31, .ref 32, .ref 33, .int 0, .ref 34, .ref 35, .ref 36, .int 0, .ref 37, .ref 38, .null, .null, .null, .null, .null, .int 0]) := ⟨_, rfl⟩
  have n11 : H11.1 = 39 := by rw [hH11, tw_sg1, tw_ng1, n10]
  have d11 : H11.2.1 = H10.2.1 + 8 := by rw [hH11, tw_sg2, tw_ng2]
  have o11 : ∀ x, x < 38 → x ≠ 27 → H11.2.2 x = H10.2.2 x := fun x h1 h2 => by rw [hH11, tw_sg, if_neg h2, tw_ng, if_neg (by omega)]
  have c38 : H11.2.2 38 = some (iC 8 (fun _ => 0)) := by rw [hH11, tw_sg, if_neg (by decide), tw_ng, if_pos n10.symm]
  have p11 : tw_b 108 84 [.ref 27, tw_un] [] H10 = tw_b 108 92 [.ref 27, tw_un] [] H11 := by
    rw [hH11]
    simp [s108_84, s108_85, s108_87, s108_89, n10, tw_sf, tw_fit, tw_ng, g10, show tw_ok 8 = true from rfl, show (8 : Int32).toNatClampNeg = 8 from rfl]
  have g11 : H11.2.2 27 = some (oC 11 [.int 0, .int 0, .ref 28, .int 0, .ref 29, .ref 30, .int 0, .int 0, .int 0, .int 0, .int 0, .int 0, .int 0, .ref 31, .ref 32, .ref 33, .int 0, .ref 34, .ref 35, .ref 36, .int 0, .ref 37, .ref 38, .null, .null, .null, .null, .null, .int 0]) := by rw [hH11, tw_sg, if_pos rfl]
  obtain ⟨H12, hH12⟩ : ∃ H, H = tw_set (tw_new H11 (iC 8 (fun _ => 0)) 8) 27 (oC 11 [.int 0, .int 0, .ref 28, .int 0, .ref 29, .ref 30, .int 0, .int 0, .int 0, .int 0, .int 0, .int 0, .int 0, .ref 31, .ref 32, .ref 33, .int 0, .ref 34, .ref 35, .ref 36, .int 0, .ref 37, .ref 38, .ref 39, .null, .null, .null, .null, .int 0]) := ⟨_, rfl⟩
  have n12 : H12.1 = 40 := by rw [hH12, tw_sg1, tw_ng1, n11]
  have d12 : H12.2.1 = H11.2.1 + 8 := by rw [hH12, tw_sg2, tw_ng2]
  have o12 : ∀ x, x < 39 → x ≠ 27 → H12.2.2 x = H11.2.2 x := fun x h1 h2 => by rw [hH12, tw_sg, if_neg h2, tw_ng, if_neg (by omega)]
  have c39 : H12.2.2 39 = some (iC 8 (fun _ => 0)) := by rw [hH12, tw_sg, if_neg (by decide), tw_ng, if_pos n11.symm]
  have p12 : tw_b 108 92 [.ref 27, tw_un] [] H11 = tw_b 108 100 [.ref 27, tw_un] [] H12 := by
    rw [hH12]
    simp [s108_92, s108_93, s108_95, s108_97, n11, tw_sf, tw_fit, tw_ng, g11, show tw_ok 8 = true from rfl, show (8 : Int32).toNatClampNeg = 8 from rfl]
  have g12 : H12.2.2 27 = some (oC 11 [.int 0, .int 0, .ref 28, .int 0, .ref 29, .ref 30, .int 0, .int 0, .int 0, .int 0, .int 0, .int 0, .int 0, .ref 31, .ref 32, .ref 33, .int 0, .ref 34, .ref 35, .ref 36, .int 0, .ref 37, .ref 38, .ref 39, .null, .null, .null, .null, .int 0]) := by rw [hH12, tw_sg, if_pos rfl]
  obtain ⟨H13, hH13⟩ : ∃ H, H = tw_set (tw_new H12 (iC 4 (fun _ => 0)) 4) 27 (oC 11 [.int 0, .int 0, .ref 28, .int 0, .ref 29, .ref 30, .int 0, .int 0, .int 0, .int 0, .int 0, .int 0, .int 0, .ref 31, .ref 32, .ref 33, .int 0, .ref 34, .ref 35, .ref 36, .int 0, .ref 37, .ref 38, .ref 39, .ref 40, .null, .null, .null, .int 0]) := ⟨_, rfl⟩
  have n13 : H13.1 = 41 := by rw [hH13, tw_sg1, tw_ng1, n12]
  have d13 : H13.2.1 = H12.2.1 + 4 := by rw [hH13, tw_sg2, tw_ng2]
  have o13 : ∀ x, x < 40 → x ≠ 27 → H13.2.2 x = H12.2.2 x := fun x h1 h2 => by rw [hH13, tw_sg, if_neg h2, tw_ng, if_neg (by omega)]
  have c40 : H13.2.2 40 = some (iC 4 (fun _ => 0)) := by rw [hH13, tw_sg, if_neg (by decide), tw_ng, if_pos n12.symm]
  have p13 : tw_b 108 100 [.ref 27, tw_un] [] H12 = tw_b 108 107 [.ref 27, tw_un] [] H13 := by
    rw [hH13]
    simp [s108_100, s108_101, s108_102, s108_104, n12, tw_sf, tw_fit, tw_ng, g12, show tw_ok 4 = true from rfl, show (4 : Int32).toNatClampNeg = 4 from rfl]
  have g13 : H13.2.2 27 = some (oC 11 [.int 0, .int 0, .ref 28, .int 0, .ref 29, .ref 30, .int 0, .int 0, .int 0, .int 0, .int 0, .int 0, .int 0, .ref 31, .ref 32, .ref 33, .int 0, .ref 34, .ref 35, .ref 36, .int 0, .ref 37, .ref 38, .ref 39, .ref 40, .null, .null, .null, .int 0]) := by rw [hH13, tw_sg, if_pos rfl]
  obtain ⟨H14, hH14⟩ : ∃ H, H = tw_set (tw_new H13 (iC 4 (fun _ => 0)) 4) 27 (oC 11 [.int 0, .int 0, .ref 28, .int 0, .ref 29, .ref 30, .int 0, .int 0, .int 0, .int 0, .int 0, .int 0, .int 0, .ref 31, .ref 32, .ref 33, .int 0, .ref 34, .ref 35, .ref 36, .int 0, .ref 37, .ref 38, .ref 39, .ref 40, .ref 41, .null, .null, .int 0]) := ⟨_, rfl⟩
  have n14 : H14.1 = 42 := by rw [hH14, tw_sg1, tw_ng1, n13]
  have d14 : H14.2.1 = H13.2.1 + 4 := by rw [hH14, tw_sg2, tw_ng2]
  have o14 : ∀ x, x < 41 → x ≠ 27 → H14.2.2 x = H13.2.2 x := fun x h1 h2 => by rw [hH14, tw_sg, if_neg h2, tw_ng, if_neg (by omega)]
  have c41 : H14.2.2 41 = some (iC 4 (fun _ => 0)) := by rw [hH14, tw_sg, if_neg (by decide), tw_ng, if_pos n13.symm]
  have p14 : tw_b 108 107 [.ref 27, tw_un] [] H13 = tw_b 108 114 [.ref 27, tw_un] [] H14 := by
    rw [hH14]
    simp [s108_107, s108_108, s108_109, s108_111, n13, tw_sf, tw_fit, tw_ng, g13, show tw_ok 4 = true from rfl, show (4 : Int32).toNatClampNeg = 4 from rfl]
  have g14 : H14.2.2 27 = some (oC 11 [.int 0, .int 0, .ref 28, .int 0, .ref 29, .ref 30, .int 0, .int 0, .int 0, .int 0, .int 0, .int 0, .int 0, .ref 31, .ref 32, .ref 33, .int 0, .ref 34, .ref 35, .ref 36, .int 0, .ref 37, .ref 38, .ref 39, .ref 40, .ref 41, .null, .null, .int 0]) := by rw [hH14, tw_sg, if_pos rfl]
  obtain ⟨H15, hH15⟩ : ∃ H, H = tw_set (tw_new H14 (iC 240 (fun _ => 0)) 240) 27 (oC 11 [.int 0, .int 0, .ref 28, .int 0, .ref 29, .ref 30, .int 0, .int 0, .int 0, .int 0, .int 0, .int 0, .int 0, .ref 31, .ref 32, .ref 33, .int 0, .ref 34, .ref 35, .ref 36, .int 0, .ref 37, .ref 38, .ref 39, .ref 40, .ref 41, .ref 42, .null, .int 0]) := ⟨_, rfl⟩
  have n15 : H15.1 = 43 := by rw [hH15, tw_sg1, tw_ng1, n14]
  have d15 : H15.2.1 = H14.2.1 + 240 := by rw [hH15, tw_sg2, tw_ng2]
  have o15 : ∀ x, x < 42 → x ≠ 27 → H15.2.2 x = H14.2.2 x := fun x h1 h2 => by rw [hH15, tw_sg, if_neg h2, tw_ng, if_neg (by omega)]
  have c42 : H15.2.2 42 = some (iC 240 (fun _ => 0)) := by rw [hH15, tw_sg, if_neg (by decide), tw_ng, if_pos n14.symm]
  have p15 : tw_b 108 114 [.ref 27, tw_un] [] H14 = tw_b 108 123 [.ref 27, tw_un] [] H15 := by
    rw [hH15]
    simp [s108_114, s108_115, s108_118, s108_120, n14, tw_sf, tw_fit, tw_ng, g14, show tw_ok 240 = true from rfl, show (240 : Int32).toNatClampNeg = 240 from rfl]
  have g15 : H15.2.2 27 = some (oC 11 [.int 0, .int 0, .ref 28, .int 0, .ref 29, .ref 30, .int 0, .int 0, .int 0, .int 0, .int 0, .int 0, .int 0, .ref 31, .ref 32, .ref 33, .int 0, .ref 34, .ref 35, .ref 36, .int 0, .ref 37, .ref 38, .ref 39, .ref 40, .ref 41, .ref 42, .null, .int 0]) := by rw [hH15, tw_sg, if_pos rfl]
  obtain ⟨H16, hH16⟩ : ∃ H, H = tw_set (tw_new H15 (iC 60 (fun _ => 0)) 60) 27 (oC 11 [.int 0, .int 0, .ref 28, .int 0, .ref 29, .ref 30, .int 0, .int 0, .int 0, .int 0, .int 0, .int 0, .int 0, .ref 31, .ref 32, .ref 33, .int 0, .ref 34, .ref 35, .ref 36, .int 0, .ref 37, .ref 38, .ref 39, .ref 40, .ref 41, .ref 42, .ref 43, .int 0]) := ⟨_, rfl⟩
  have n16 : H16.1 = 44 := by rw [hH16, tw_sg1, tw_ng1, n15]
  have d16 : H16.2.1 = H15.2.1 + 60 := by rw [hH16, tw_sg2, tw_ng2]
  have o16 : ∀ x, x < 43 → x ≠ 27 → H16.2.2 x = H15.2.2 x := fun x h1 h2 => by rw [hH16, tw_sg, if_neg h2, tw_ng, if_neg (by omega)]
  have c43 : H16.2.2 43 = some (iC 60 (fun _ => 0)) := by rw [hH16, tw_sg, if_neg (by decide), tw_ng, if_pos n15.symm]
  have p16 : tw_b 108 123 [.ref 27, tw_un] [] H15 = tw_b 108 131 [.ref 27, tw_un] [] H16 := by
    rw [hH16]
    simp [s108_123, s108_124, s108_126, s108_128, n15, tw_sf, tw_fit, tw_ng, g15, show tw_ok 60 = true from rfl, show (60 : Int32).toNatClampNeg = 60 from rfl]
  have g16 : H16.2.2 27 = some (oC 11 [.int 0, .int 0, .ref 28, .int 0, .ref 29, .ref 30, .int 0, .int 0, .int 0, .int 0, .int 0, .int 0, .int 0, .ref 31, .ref 32, .ref 33, .int 0, .ref 34, .ref 35, .ref 36, .int 0, .ref 37, .ref 38, .ref 39, .ref 40, .ref 41, .ref 42, .ref 43, .int 0]) := by rw [hH16, tw_sg, if_pos rfl]
  have c40' : H16.2.2 40 = some (iC 4 (fun _ => 0)) := by rw [o16 40 (by decide) (by decide), o15 40 (by decide) (by decide), o14 40 (by decide) (by decide)]; exact c40
  have loop : ∀ (d s : Nat), s + d = 4 → tw_b 108 133 [.ref 27, .int (nI s)] [] (tw_set H16 40 (iC 4 (fset (fun _ => 0) (fun _ => -1) s))) = tw_b 108 151 [.ref 27, .int (nI 4)] [] (tw_set H16 40 (iC 4 (fset (fun _ => 0) (fun _ => -1) 4))) := by
    intro d
    induction d with
    | zero =>
      intro s hd
      have hs : s = 4 := by omega
      subst hs
      rw [s108_133]
      simp [s108_134, s108_135, s108_138, s108_139, s108_142, s108_143, s108_144, s108_145, s108_148, show nI 4 = 4 from rfl, Int32.lt_irrefl]
    | succ d ih =>
      intro s hd
      have e : nI s < 4 := nI_lt (b := 4) (by omega) (by omega)
      have ev := tw_vi_n (show s < 4 by omega) (by decide)
      have ec := nI_clamp (show s < 2 ^ 31 by omega)
      have ef := fset_s (fun _ => (0 : Int32)) (fun _ => -1) s
      rw [← ih (s + 1) (by omega), s108_133]
      simp [s108_134, s108_135, s108_138, s108_139, s108_142, s108_143, s108_144, s108_145, s108_148, e, tw_gf, tw_ix, tw_sg, g16, ev, ec, ef, tw_ss, nI_1]
  have l0 := loop 4 0 (by omega)
  rw [fset_0, tw_si H16 c40', nI_0] at l0
  obtain ⟨H17, hH17⟩ : ∃ H, H = tw_set H16 40 (iC 4 (fset (fun _ => 0) (fun _ => -1) 4)) := ⟨_, rfl⟩
  rw [← hH17] at l0
  have g17 : H17.2.2 27 = some (oC 11 [.int 0, .int 0, .ref 28, .int 0, .ref 29, .ref 30, .int 0, .int 0, .int 0, .int 0, .int 0, .int 0, .int 0, .ref 31, .ref 32, .ref 33, .int 0, .ref 34, .ref 35, .ref 36, .int 0, .ref 37, .ref 38, .ref 39, .ref 40, .ref 41, .ref 42, .ref 43, .int 0]) := by rw [hH17, tw_sg, if_neg (by decide)]; exact g16
  obtain ⟨H18, hH18⟩ : ∃ H, H = tw_set H17 27 (mC 0 0 0 0 0 0 (-9) 0 0 0 0 0 0) := ⟨_, rfl⟩
  have o18 : ∀ x, x ≠ 27 ∧ x ≠ 40 → H18.2.2 x = H16.2.2 x := fun x hx => by rw [hH18, tw_sg, if_neg hx.1, hH17, tw_sg, if_neg hx.2]
  refine ⟨H18, ?_, by rw [hH18, tw_sg1, hH17, tw_sg1, n16], by rw [hH18, tw_sg2, hH17, tw_sg2]; omega, fun x hx => by rw [o18 x (by omega), o16 x (by omega) (by omega), o15 x (by omega) (by omega), o14 x (by omega) (by omega), o13 x (by omega) (by omega), o12 x (by omega) (by omega), o11 x (by omega) (by omega), o10 x (by omega) (by omega), o9 x (by omega) (by omega), o8 x (by omega) (by omega), o7 x (by omega) (by omega), o6 x (by omega) (by omega), o5 x (by omega) (by omega), o4 x (by omega) (by omega), o3 x (by omega) (by omega), o2 x (by omega) (by omega), o1 x (by omega) (by omega)], by rw [hH18, tw_sg, if_pos rfl], by rw [o18 28 (by decide), o16 28 (by decide) (by decide), o15 28 (by decide) (by decide), o14 28 (by decide) (by decide), o13 28 (by decide) (by decide), o12 28 (by decide) (by decide), o11 28 (by decide) (by decide), o10 28 (by decide) (by decide), o9 28 (by decide) (by decide), o8 28 (by decide) (by decide), o7 28 (by decide) (by decide), o6 28 (by decide) (by decide), o5 28 (by decide) (by decide), o4 28 (by decide) (by decide), o3 28 (by decide) (by decide), o2 28 (by decide) (by decide)]; exact c28, by rw [o18 29 (by decide), o16 29 (by decide) (by decide), o15 29 (by decide) (by decide), o14 29 (by decide) (by decide), o13 29 (by decide) (by decide), o12 29 (by decide) (by decide), o11 29 (by decide) (by decide), o10 29 (by decide) (by decide), o9 29 (by decide) (by decide), o8 29 (by decide) (by decide), o7 29 (by decide) (by decide), o6 29 (by decide) (by decide), o5 29 (by decide) (by decide), o4 29 (by decide) (by decide), o3 29 (by decide) (by decide)]; exact c29, by rw [o18 30 (by decide), o16 30 (by decide) (by decide), o15 30 (by decide) (by decide), o14 30 (by decide) (by decide), o13 30 (by decide) (by decide), o12 30 (by decide) (by decide), o11 30 (by decide) (by decide), o10 30 (by decide) (by decide), o9 30 (by decide) (by decide), o8 30 (by decide) (by decide), o7 30 (by decide) (by decide), o6 30 (by decide) (by decide), o5 30 (by decide) (by decide), o4 30 (by decide) (by decide)]; exact c30, by rw [o18 31 (by decide), o16 31 (by decide) (by decide), o15 31 (by decide) (by decide), o14 31 (by decide) (by decide), o13 31 (by decide) (by decide), o12 31 (by decide) (by decide), o11 31 (by decide) (by decide), o10 31 (by decide) (by decide), o9 31 (by decide) (by decide), o8 31 (by decide) (by decide), o7 31 (by decide) (by decide), o6 31 (by decide) (by decide), o5 31 (by decide) (by decide)]; exact c31, by rw [o18 32 (by decide), o16 32 (by decide) (by decide), o15 32 (by decide) (by decide), o14 32 (by decide) (by decide), o13 32 (by decide) (by decide), o12 32 (by decide) (by decide), o11 32 (by decide) (by decide), o10 32 (by decide) (by decide), o9 32 (by decide) (by decide), o8 32 (by decide) (by decide), o7 32 (by decide) (by decide), o6 32 (by decide) (by decide)]; exact c32, by rw [o18 33 (by decide), o16 33 (by decide) (by decide), o15 33 (by decide) (by decide), o14 33 (by decide) (by decide), o13 33 (by decide) (by decide), o12 33 (by decide) (by decide), o11 33 (by decide) (by decide), o10 33 (by decide) (by decide), o9 33 (by decide) (by decide), o8 33 (by decide) (by decide), o7 33 (by decide) (by decide)]; exact c33, by rw [o18 34 (by decide), o16 34 (by decide) (by decide), o15 34 (by decide) (by decide), o14 34 (by decide) (by decide), o13 34 (by decide) (by decide), o12 34 (by decide) (by decide), o11 34 (by decide) (by decide), o10 34 (by decide) (by decide), o9 34 (by decide) (by decide), o8 34 (by decide) (by decide)]; exact c34, by rw [o18 35 (by decide), o16 35 (by decide) (by decide), o15 35 (by decide) (by decide), o14 35 (by decide) (by decide), o13 35 (by decide) (by decide), o12 35 (by decide) (by decide), o11 35 (by decide) (by decide), o10 35 (by decide) (by decide), o9 35 (by decide) (by decide)]; exact c35, by rw [o18 36 (by decide), o16 36 (by decide) (by decide), o15 36 (by decide) (by decide), o14 36 (by decide) (by decide), o13 36 (by decide) (by decide), o12 36 (by decide) (by decide), o11 36 (by decide) (by decide), o10 36 (by decide) (by decide)]; exact c36, by rw [o18 37 (by decide), o16 37 (by decide) (by decide), o15 37 (by decide) (by decide), o14 37 (by decide) (by decide), o13 37 (by decide) (by decide), o12 37 (by decide) (by decide), o11 37 (by decide) (by decide)]; exact c37, by rw [o18 38 (by decide), o16 38 (by decide) (by decide), o15 38 (by decide) (by decide), o14 38 (by decide) (by decide), o13 38 (by decide) (by decide), o12 38 (by decide) (by decide)]; exact c38, by rw [o18 39 (by decide), o16 39 (by decide) (by decide), o15 39 (by decide) (by decide), o14 39 (by decide) (by decide), o13 39 (by decide) (by decide)]; exact c39, by rw [hH18, tw_sg, if_neg (by decide), hH17, tw_sg, if_pos rfl], by rw [o18 41 (by decide), o16 41 (by decide) (by decide), o15 41 (by decide) (by decide)]; exact c41, by rw [o18 42 (by decide), o16 42 (by decide) (by decide)]; exact c42, by rw [o18 43 (by decide)]; exact c43⟩
  rw [p1, p2, p3, p4, p5, p6, p7, p8, p9, p10, p11, p12, p13, p14, p15, p16]
  have pz : tw_b 108 131 [.ref 27, tw_un] [] H16 = tw_b 108 133 [.ref 27, .int 0] [] H16 := by simp [s108_131, s108_132]
  rw [pz, l0, hH18]
  simp [s108_151, s108_152, s108_154, s108_157, tw_sf, g17, tw_fit]
end U2
