/-! what the law answers on the small machine -/
def tw_h0 (L : Nat) (xs : Nat → Int32) : tw_H := (1, 0, fun j => if j = 0 then some (.inl (L, xs)) else none)
theorem Inv.start {H : tw_H} (h1 : H.1 = 44) (x1 : H.2.2 1 = some (xC 0 0 0 0 0)) (x2 : H.2.2 2 = some (rC 1 4 (fun _ => none))) (x3 : H.2.2 3 = some (oC 7 [.ref 4, .ref 5, .ref 6, .int 0, .int 0, .int 0, .null, .int 0, .int 0])) (x4 : H.2.2 4 = some (iC 6 (fun _ => 0))) (x5 : H.2.2 5 = some (iC 8 (fun _ => 0))) (x6 : H.2.2 6 = some (iC 8 (fun _ => 0))) (x7 : H.2.2 7 = some (oC 8 [.int 0])) (x8 : H.2.2 8 = some (oC 5 [.ref 9, .int 0, .ref 13])) (x9 : H.2.2 9 = some (oC 2 [.int 0, .ref 10, .ref 11, .ref 12])) (x10 : H.2.2 10 = some (iC 6 (fun _ => 0))) (x11 : H.2.2 11 = some (iC 6 (fun _ => 0))) (x12 : H.2.2 12 = some (iC 6 (fun _ => 0))) (x13 : H.2.2 13 = some (iC 6 (fun _ => 0))) (x14 : H.2.2 14 = some (oC 2 [.int 0, .ref 15, .ref 16, .ref 17])) (x15 : H.2.2 15 = some (iC 8 (fun _ => 0))) (x16 : H.2.2 16 = some (iC 8 (fun _ => 0))) (x17 : H.2.2 17 = some (iC 8 (fun _ => 0))) (x18 : H.2.2 18 = some (rC 2 8 (fun _ => none))) (x19 : H.2.2 19 = some (oC 6 [.ref 20, .ref 21])) (x20 : H.2.2 20 = some (iC 8 (fun _ => 0))) (x21 : H.2.2 21 = some (iC 8 (fun _ => 0))) (x22 : H.2.2 22 = some (oC 6 [.ref 23, .ref 24])) (x23 : H.2.2 23 = some (iC 8 (fun _ => 0))) (x24 : H.2.2 24 = some (iC 8 (fun _ => 0))) (x25 : H.2.2 25 = some (oC 1 [.ref 26])) (x26 : H.2.2 26 = some (iC 8 (fun _ => 0))) (x27 : H.2.2 27 = some (mC 0 0 0 0 0 0 (-9) 0 0 0 0 0 0)) (x28 : H.2.2 28 = some (iC 6 (fun _ => 0))) (x29 : H.2.2 29 = some (iC 8 (fun _ => 0))) (x30 : H.2.2 30 = some (iC 8 (fun _ => 0))) (x31 : H.2.2 31 = some (iC 6 (fun _ => 0))) (x32 : H.2.2 32 = some (iC 8 (fun _ => 0))) (x33 : H.2.2 33 = some (iC 8 (fun _ => 0))) (x34 : H.2.2 34 = some (iC 7 (fun _ => 0))) (x35 : H.2.2 35 = some (iC 7 (fun _ => 0))) (x36 : H.2.2 36 = some (iC 8 (fun _ => 0))) (x37 : H.2.2 37 = some (iC 8 (fun _ => 0))) (x38 : H.2.2 38 = some (iC 8 (fun _ => 0))) (x39 : H.2.2 39 = some (iC 8 (fun _ => 0))) (x40 : H.2.2 40 = some (iC 4 (fset (fun _ => 0) (fun _ => -1) 4))) (x41 : H.2.2 41 = some (iC 4 (fun _ => 0))) (x42 : H.2.2 42 = some (iC 240 (fun _ => 0))) (x43 : H.2.2 43 = some (iC 60 (fun _ => 0))) : Inv H := by
  refine ⟨0, 0, 0, 0, 0, 0, 0, 0, 0, fun _ => 0, fun _ => 0, fun _ => 0, fun _ => 0, fun _ => 0, fun _ => 0, fun _ => 0, fun _ => 0, fun _ => 0, fun _ => 0, fun _ => 0, fun _ => 0, fun _ => 0, fun _ => 0, fset (fun _ => 0) (fun _ => -1) 4, fun _ => 0, fun _ => 0, fun _ => none, ?_, ?_, ?_, ?_⟩
  · exact ⟨by omega, by rw [nI_0]; exact x1, ⟨by rw [nI_0]; exact x8, x13, by rw [nI_0]; exact x9, x10, x11, x12, by omega⟩, ⟨by rw [nI_0]; exact x14, x15, x16, x17, by omega⟩, ⟨x19, x20, x21⟩, ⟨_, _, x22, x23, x24⟩, ⟨_, x25, x26⟩, x18, fun k hk => Or.inr ⟨by omega, rfl⟩, x7, ⟨0, 0, 0, 0, 0, .null, _, _, _, x3, x4, x5, x6⟩⟩
  · exact ⟨fun _ => none, fun _ => 0, fun _ => 0, fun _ => 0, x2, fun k hk => Or.inl ⟨rfl, fset_lt hk⟩⟩
  · exact ⟨⟨0, 0, 0, by rw [nI_0]; exact x27, x28, x29, x30, x34, x35⟩, ⟨x37, x38, x39, by omega, fun x hx => by omega⟩, ⟨_, x40, x41, x42, x43⟩, ⟨_, x36⟩, _, _, _, x31, x32, x33⟩
  · exact ⟨by omega, by omega, Iff.rfl, fun z => by omega, ⟨0, by decide, rfl⟩, fun j hj => by omega, fun j hj => by omega, fun z => by omega⟩
theorem tw_law (L : Nat) (xs : Nat → Int32) (hL : L ≤ 384) : ∃ h1 : tw_H, tw_b 178 0 (tw_en 178 [.ref 0]) [] (tw_h0 L xs) = some (some (.int 1), h1) ∧ h1.1 ≤ 1000 ∧ h1.2.1 ≤ 8000 := by
  have ent : tw_en 178 [.ref 0] = [.ref 0, tw_un, tw_un, tw_un] := by
    unfold tw_en
    rw [tw_ml_178]
    rfl
  rw [ent]
  obtain ⟨G1, hG1⟩ : ∃ G, G = tw_new (tw_h0 L xs) (oC 10 [.null, .null, .null, .null, .null, .null, .null, .null, .null, .int 0, .int 0, .int 0, .int 0, .int 0]) 14 := ⟨_, rfl⟩
  have n1 : G1.1 = 2 := by rw [hG1]; rfl
  have d1 : G1.2.1 = 14 := by rw [hG1]; rfl
  have z1 : G1.2.2 0 = some (iC L xs) := by rw [hG1]; rfl
  have g1 : G1.2.2 1 = some (oC 10 [.null, .null, .null, .null, .null, .null, .null, .null, .null, .int 0, .int 0, .int 0, .int 0, .int 0]) := by rw [hG1]; rfl
  obtain ⟨H1, e1, m1, s1, y0, y1, y2, y3, y4, y5, y6, y7, y8, y9, y10, y11, y12, y13, y14, y15, y16, y17, y18, y19, y20, y21, y22, y23, y24, y25, y26⟩ := x_iNew n1 g1
  obtain ⟨G2, hG2⟩ : ∃ G, G = tw_new H1 (oC 11 [.int 0, .int 0, .null, .int 0, .null, .null, .int 0, .int 0, .int 0, .int 0, .int 0, .int 0, .int 0, .null, .null, .null, .int 0, .null, .null, .null, .int 0, .null, .null, .null, .null, .null, .null, .null, .int 0]) 29 := ⟨_, rfl⟩
  have n2 : G2.1 = 28 := by rw [hG2, tw_ng1, m1]
  have d2 : G2.2.1 = H1.2.1 + 29 := by rw [hG2, tw_ng2]
  have o2 : ∀ x, x < 27 → G2.2.2 x = H1.2.2 x := fun x hx => by rw [hG2, tw_ng, if_neg (by omega)]
  have g2 : G2.2.2 27 = some (oC 11 [.int 0, .int 0, .null, .int 0, .null, .null, .int 0, .int 0, .int 0, .int 0, .int 0, .int 0, .int 0, .null, .null, .null, .int 0, .null, .null, .null, .int 0, .null, .null, .null, .null, .null, .null, .null, .int 0]) := by rw [hG2, tw_ng, if_pos m1.symm]
  obtain ⟨H2, e2, m2, s2, o3, y27, y28, y29, y30, y31, y32, y33, y34, y35, y36, y37, y38, y39, y40, y41, y42, y43⟩ := m_iNew n2 g2
  have lo : ∀ x, x < 27 → H2.2.2 x = H1.2.2 x := fun x hx => (o3 x hx).trans (o2 x hx)
  have I : Inv H2 := Inv.start m2 (by rw [lo 1 (by decide)]; exact y1) (by rw [lo 2 (by decide)]; exact y2) (by rw [lo 3 (by decide)]; exact y3) (by rw [lo 4 (by decide)]; exact y4) (by rw [lo 5 (by decide)]; exact y5) (by rw [lo 6 (by decide)]; exact y6) (by rw [lo 7 (by decide)]; exact y7) (by rw [lo 8 (by decide)]; exact y8) (by rw [lo 9 (by decide)]; exact y9) (by rw [lo 10 (by decide)]; exact y10) (by rw [lo 11 (by decide)]; exact y11) (by rw [lo 12 (by decide)]; exact y12) (by rw [lo 13 (by decide)]; exact y13) (by rw [lo 14 (by decide)]; exact y14) (by rw [lo 15 (by decide)]; exact y15) (by rw [lo 16 (by decide)]; exact y16) (by rw [lo 17 (by decide)]; exact y17) (by rw [lo 18 (by decide)]; exact y18) (by rw [lo 19 (by decide)]; exact y19) (by rw [lo 20 (by decide)]; exact y20) (by rw [lo 21 (by decide)]; exact y21) (by rw [lo 22 (by decide)]; exact y22) (by rw [lo 23 (by decide)]; exact y23) (by rw [lo 24 (by decide)]; exact y24) (by rw [lo 25 (by decide)]; exact y25) (by rw [lo 26 (by decide)]; exact y26) y27 y28 y29 y30 y31 y32 y33 y34 y35 y36 y37 y38 y39 y40 y41 y42 y43
  have z2 : H2.2.2 0 = some (iC L xs) := by rw [lo 0 (by decide), y0]; exact z1
  obtain ⟨h', k1, k2, k3⟩ := l_loop (xs := xs) hL 64 0 H2 (by omega) (by omega) I z2
  refine ⟨h', ?_, by omega, by omega⟩
  rw [← k1]
  have f1 : (tw_h0 L xs).1 = 1 := rfl
  simp [s178_0, s178_3, s178_4, s178_7, s178_8, s178_11, s178_12, s178_15, s178_16, s178_17, f1, ← hG1, e1, m1, ← hG2, e2, nI_0]
