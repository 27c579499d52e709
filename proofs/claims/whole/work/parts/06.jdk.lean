/-! the JDK's own calls; what a step may make -/
theorem tw_ct_v (base b0 : Nat) (T : List Value) : ((T.map (tw_v base b0)).map fun v => v.category).sum = tw_ct T := by
  unfold tw_ct
  rw [List.map_map]
  congr 1
  exact List.map_congr_left fun v _ => tw_v_cat base b0 v
theorem tw_inv_no {mi pc t : Nat} {L T vs : List Value} {h : tw_H} {σ : tw_S} (hx : tw_inv mi pc L T h t vs = some (.inr (.inl σ))) : False := by
  unfold tw_inv at hx
  obtain ⟨-, hx⟩ := tw_gS.mp hx
  cases hx
section TWJ
variable {p : Program} {l : Launch} {e : Env} {R : Room} {s : State} {m : MethodId} {args : Array Value} {below : List Frame} {meth : Method} {c : Code} {Q : State → Prop} {base b0 L0 k0 k1 : Nat} {cA : Nat → ClassId} {D : va_G} {xs : Nat → Int32} {mi pc len : Nat} {L S : List Value} {h : tw_H} {σ : tw_S}
theorem tw_n_static {i : Nat} (C : tw_Cx p s m args meth c mi) (Wd : tw_Wd cA D s) (hf : tw_rk mi ≤ R.frames ∧ 36 * tw_rk mi ≤ R.locals) (hcb : σ.2.2.2.2.1 ≤ R.cells + k0) (hsb : σ.2.2.2.2.2.1 ≤ R.slots + k1) (K : tw_K p l e R s m args below meth c Q base b0 L0 k0 k1 cA D xs σ.1 σ.2.1 σ.2.2.1 σ.2.2.2.1 σ.2.2.2.2) (hd : decode (tw_c mi) pc = .ok (.invokestatic i, len)) (hx : tw_do mi pc L S h len (.invokestatic i) = some (.inr (.inl σ))) : tw_K p l e R s m args below meth c Q base b0 L0 k0 k1 cA D xs mi pc L S h := by
  obtain ⟨hX, hB, hM, hrt, hown, hlk, hnm, hts⟩ := C
  simp only [tw_do] at hx
  replace hx := tw_gS.mp hx
  obtain ⟨hl, hx⟩ := hx
  obtain rfl := eq_of_beq hl
  replace hx := Option.bind_eq_some_iff.mp hx
  obtain ⟨q, hce, hx⟩ := hx
  obtain ⟨hok, hoi⟩ := tw_cok hce
  obtain ⟨⟨o, i'⟩, kd, n, ts, ps, tp, x0, ow⟩ := q
  cases hoi
  simp only [tw_cc] at hok
  dsimp only at hx
  split at hx
  · exact (tw_inv_no (tw_gS.mp hx).2).elim
  · exact (tw_inv_no (tw_gS.mp hx).2).elim
  · -- max
    simp only [Bool.and_eq_true] at hok
    have hlk := tw_is.mem hok.2
    replace hx := Option.bind_eq_some_iff.mp hx
    obtain ⟨⟨y, T_y⟩, hq, hx⟩ := hx
    obtain rfl := tw_pIS hq
    dsimp only at hx
    replace hx := Option.bind_eq_some_iff.mp hx
    obtain ⟨⟨x, T_x⟩, hq, hx⟩ := hx
    obtain rfl := tw_pIS hq
    dsimp only at hx
    replace hx := tw_gS.mp hx
    obtain ⟨hz, hx⟩ := hx
    simp only [Bool.and_eq_true, decide_eq_true_eq] at hz
    obtain rfl := tw_nxS hx
    intro H ls locs cells slots hR hL hlo hc hs
    have hcb : h.1 ≤ R.cells + k0 := hcb
    have hsb : h.2.1 ≤ R.slots + k1 := hsb
    exact va_mmax hX hB (by rw [hM]; exact hL.1.symm) hown (hts _ (tw_gt_of hlk rfl)) (hts _ (tw_gt_of tw_w_maxSt rfl)) (hts _ (tw_gt_of tw_w_mathIni rfl)) (hts _ (tw_gt_of tw_w_maxC rfl)) (by omega) (by rw [tw_ct_v]; show tw_ct T_x + 13 ≤ R.locals; omega) (by omega) (by omega) hd (K H ls locs cells slots hR hL hlo hc hs)
  · -- min
    simp only [Bool.and_eq_true] at hok
    have hlk := tw_is.mem hok.2
    replace hx := Option.bind_eq_some_iff.mp hx
    obtain ⟨⟨y, T_y⟩, hq, hx⟩ := hx
    obtain rfl := tw_pIS hq
    dsimp only at hx
    replace hx := Option.bind_eq_some_iff.mp hx
    obtain ⟨⟨x, T_x⟩, hq, hx⟩ := hx
    obtain rfl := tw_pIS hq
    dsimp only at hx
    replace hx := tw_gS.mp hx
    obtain ⟨hz, hx⟩ := hx
    simp only [Bool.and_eq_true, decide_eq_true_eq] at hz
    obtain rfl := tw_nxS hx
    intro H ls locs cells slots hR hL hlo hc hs
    have hcb : h.1 ≤ R.cells + k0 := hcb
    have hsb : h.2.1 ≤ R.slots + k1 := hsb
    exact va_mmin hX hB (by rw [hM]; exact hL.1.symm) hown (hts _ (tw_gt_of hlk rfl)) (hts _ (tw_gt_of tw_w_minSt rfl)) (hts _ (tw_gt_of tw_w_mathIni rfl)) (hts _ (tw_gt_of tw_w_minC rfl)) (by omega) (by rw [tw_ct_v]; show tw_ct T_x + 13 ≤ R.locals; omega) (by omega) (by omega) hd (K H ls locs cells slots hR hL hlo hc hs)
  · -- arraycopy
    simp only [Bool.and_eq_true] at hok
    have hlk := tw_is.mem hok.2
    replace hx := Option.bind_eq_some_iff.mp hx
    obtain ⟨⟨n0, T_n0⟩, hq, hx⟩ := hx
    obtain rfl := tw_pIS hq
    dsimp only at hx
    replace hx := Option.bind_eq_some_iff.mp hx
    obtain ⟨⟨dp, T_dp⟩, hq, hx⟩ := hx
    obtain rfl := tw_pIS hq
    dsimp only at hx
    replace hx := Option.bind_eq_some_iff.mp hx
    obtain ⟨⟨b, T_b⟩, hq, hx⟩ := hx
    obtain rfl := tw_pRS hq
    dsimp only at hx
    replace hx := Option.bind_eq_some_iff.mp hx
    obtain ⟨⟨sp, T_sp⟩, hq, hx⟩ := hx
    obtain rfl := tw_pIS hq
    dsimp only at hx
    replace hx := Option.bind_eq_some_iff.mp hx
    obtain ⟨⟨a, T_a⟩, hq, hx⟩ := hx
    obtain rfl := tw_pRS hq
    dsimp only at hx
    replace hx := tw_gS.mp hx
    obtain ⟨hz, hx⟩ := hx
    simp only [Bool.and_eq_true, decide_eq_true_eq] at hz
    obtain ⟨hza, hzb, hzc, hzr⟩ := hz
    split at hx
    · rename_i na f nb g ha hb
      replace hx := tw_gS.mp hx
      obtain ⟨hz, hx⟩ := hx
      simp only [Bool.and_eq_true, decide_eq_true_eq] at hz
      obtain ⟨z1, z2, z3, z4, z5⟩ := hz
      have h3 := Int32.not_lt.mpr z1
      have h2 := Int32.not_lt.mpr z2
      have h1 := Int32.not_lt.mpr z3
      obtain rfl := tw_nxS hx
      obtain ⟨j, rfl⟩ : ∃ j, b = j + 1 := ⟨b - 1, by omega⟩
      intro H ls locs cells slots hR hL hlo hc hs
      obtain ⟨hat, hbs⟩ := hR.at hzb hb
      obtain ⟨hat0, -⟩ := hR.at hza ha
      have hc0 : H[tw_ad base b0 a]? = some (vp_cell (cA 0) (na, .inl f)) := hat0
      have hc1 : H[tw_ad base b0 (j + 1)]? = some (vp_cell (cA 0) (nb, .inl g)) := hat
      obtain ⟨-, kA, hkA, cm, hkk⟩ := (Wd.1.2 0 _ rfl).1 0 (fun _ => .null)
      have nn : ∀ z : Int32, ¬ z < 0 → z.toInt = (z.toNatClampNeg : Int) := fun z hz => by
        have : (0 : Int32).toInt ≤ z.toInt := Int32.le_iff_toInt_le.mp (Int32.not_lt.mp hz)
        show z.toInt = (z.toInt.toNat : Int)
        have h0 : (0 : Int32).toInt = 0 := rfl
        omega
      intro T hT X
      obtain ⟨vm', X', step⟩ := X.arraycopy hX hown (hts _ (tw_gt_of hlk rfl)) (hts _ (tw_gt_of tw_w_acpNat rfl)) (hts _ (tw_gt_of tw_w_acpSt rfl)) (hts _ (tw_gt_of tw_w_sysIni rfl)) (src := tw_ad base b0 a) (dst := tw_ad base b0 (j + 1)) (cs := vp_cell (cA 0) (na, .inl f)) (cd := vp_cell (cA 0) (nb, .inl g)) (srcPos := sp) (destPos := dp) (n := n0) (by rw [hT]; exact hc0) (by rw [hT]; exact hc1)
        (fun _ h => by cases h) (fun _ h => by cases h) (fun h => by cases h) (fun h => by cases h) hkA hkA hkk hkk (by simp [refKind]) h1 h2 h3
        (by rw [nn sp h1, nn n0 h3]; show ¬ _ > ((arrV (cA 0) na (fun j => .int (f j))).slots.size : Int); rw [arrV_size]; omega)
        (by rw [nn dp h2, nn n0 h3]; show ¬ _ > ((arrV (cA 0) nb (fun j => .int (g j))).slots.size : Int); rw [arrV_size]; omega)
        (fun vm₁ _ i hi => by
          have e : (vp_cell (cA 0) (na, .inl f)).slots.getD (sp.toNatClampNeg + i) .null = .int (f (sp.toNatClampNeg + i)) := by
            show (arrV (cA 0) na (fun j => .int (f j))).slots.getD _ _ = _
            rw [Array.getD_eq_getD_getElem?, arrV_read _ _ (by omega)]
            rfl
          refine ⟨?_, ?_⟩
          · rw [e]
            rfl
          · rw [e]
            exact trivial)
        (g := F0 m pc ls (.int n0 :: .int dp :: .ref (tw_ad base b0 (j + 1)) :: .int sp :: .ref (tw_ad base b0 a) :: T_a.map (tw_v base b0))) rfl (by rw [hM]; exact hL.1) (rest := T_a.map (tw_v base b0)) rfl (by rw [hB]; exact hd) (by omega) (by
          have hnw : nativeFrameWords "java/lang/System" "arraycopy" 5 + 11 ≤ 28 := by decide +kernel
          show 2 * 0 + _ + _ ≤ _
          rw [tw_ct_v]
          omega)
      have e1 : copied (vp_cell (cA 0) (na, .inl f)) (vp_cell (cA 0) (nb, .inl g)) sp dp n0 = vp_cell (cA 0) (nb, .inl (va_cpy f g sp.toNatClampNeg dp.toNatClampNeg n0.toNatClampNeg)) := va_copied (fun z => .int z) (cA 0) (cA 0) f g z4
      rw [e1] at X' step
      have hl : tw_ad base b0 (j + 1) < H.size := (Array.getElem?_eq_some_iff.mp hc1).1
      have hheap : ((T.setVm vm').setCell (tw_ad base b0 (j + 1)) (vp_cell (cA 0) (nb, .inl (va_cpy f g sp.toNatClampNeg dp.toNatClampNeg n0.toNatClampNeg)))).heap = H.setIfInBounds (tw_ad base b0 (j + 1)) (vp_cell (cA 0) (nb, .inl (va_cpy f g sp.toNatClampNeg dp.toNatClampNeg n0.toNatClampNeg))) := by rw [← hT]; rfl
      obtain ⟨t, a1, b1⟩ := K _ ls _ cells slots (hR.set (H1 := H.setIfInBounds (tw_ad base b0 (j + 1)) (vp_cell (cA 0) (nb, .inl (va_cpy f g sp.toNatClampNeg dp.toNatClampNeg n0.toNatClampNeg)))) (by simp) (by
          show (H.setIfInBounds (base + j) _)[base + j]? = some _
          have hl' : base + j < H.size := hl
          simp [Array.getElem?_setIfInBounds, hl', tw_ad]) (fun q hq => by
          have hq' : ¬ tw_ad base b0 (j + 1) = q := fun z => hq z.symm
          simp [Array.getElem?_setIfInBounds, hq'])) hL (fun z hz => by
          rcases List.mem_append.mp hz with h | h
          · exact hlo z h
          · obtain ⟨y, -, hy⟩ := List.mem_map.mp h
            rw [← hy]
            exact hbs) hc hs _ hheap X'
      exact ⟨t, step t a1, b1⟩
    · cases hx
  · cases hx
theorem tw_n_special {i : Nat} (C : tw_Cx p s m args meth c mi) (Wd : tw_Wd cA D s) (hf : tw_rk mi ≤ R.frames ∧ 36 * tw_rk mi ≤ R.locals) (hcb : σ.2.2.2.2.1 ≤ R.cells + k0) (hsb : σ.2.2.2.2.2.1 ≤ R.slots + k1) (K : tw_K p l e R s m args below meth c Q base b0 L0 k0 k1 cA D xs σ.1 σ.2.1 σ.2.2.1 σ.2.2.2.1 σ.2.2.2.2) (hd : decode (tw_c mi) pc = .ok (.invokespecial i, len)) (hx : tw_do mi pc L S h len (.invokespecial i) = some (.inr (.inl σ))) : tw_K p l e R s m args below meth c Q base b0 L0 k0 k1 cA D xs mi pc L S h := by
  obtain ⟨hX, hB, hM, hrt, hown, hlk, hnm, hts⟩ := C
  simp only [tw_do] at hx
  replace hx := tw_gS.mp hx
  obtain ⟨hl, hx⟩ := hx
  obtain rfl := eq_of_beq hl
  replace hx := Option.bind_eq_some_iff.mp hx
  obtain ⟨q, hce, hx⟩ := hx
  obtain ⟨hok, hoi⟩ := tw_cok hce
  obtain ⟨⟨o, i'⟩, kd, n, ts, ps, tp, x0, ow⟩ := q
  cases hoi
  simp only [tw_cc] at hok
  dsimp only at hx
  replace hx := Option.bind_eq_some_iff.mp hx
  obtain ⟨⟨a, T_a⟩, hq, hx⟩ := hx
  have hS := tw_pRS hq
  dsimp only at hx
  replace hx := tw_gS.mp hx
  obtain ⟨hz, hx⟩ := hx
  have hz := of_decide_eq_true hz
  split at hx
  · exact (tw_inv_no hx).elim
  · exact (tw_inv_no hx).elim
  · split at hx
    · exact (tw_inv_no (tw_gS.mp hx).2).elim
    · cases hx
  · simp only [Bool.and_eq_true] at hok
    have hlk := tw_is.mem hok.2
    replace hx := tw_gS.mp hx
    obtain ⟨hz, hx⟩ := hx
    simp only [Bool.and_eq_true, decide_eq_true_eq] at hz
    obtain ⟨w1, w2, rfl⟩ := hz
    obtain rfl := tw_nxS hx
    rw [List.drop_zero] at hS
    subst hS
    intro H ls locs cells slots hR hL hlo hc hs
    exact W.objInit hX hB hown (hts _ (tw_gt_of hlk rfl)) (hts _ (tw_gt_of tw_w_objInst rfl)) (hts _ (tw_gt_of tw_w_objCode rfl)) rfl (by rw [hM]; exact hL.1) rfl hd (by omega) (by show 2 * 0 + _ + 12 ≤ _; rw [tw_ct_v]; show 2 * 0 + tw_ct T_a + 12 ≤ R.locals; omega) (K H ls locs cells slots hR hL hlo hc hs)
  · cases hx
theorem tw_n_virtual {i : Nat} (C : tw_Cx p s m args meth c mi) (Wd : tw_Wd cA D s) (hf : tw_rk mi ≤ R.frames ∧ 36 * tw_rk mi ≤ R.locals) (hcb : σ.2.2.2.2.1 ≤ R.cells + k0) (hsb : σ.2.2.2.2.2.1 ≤ R.slots + k1) (K : tw_K p l e R s m args below meth c Q base b0 L0 k0 k1 cA D xs σ.1 σ.2.1 σ.2.2.1 σ.2.2.2.1 σ.2.2.2.2) (hd : decode (tw_c mi) pc = .ok (.invokevirtual i, len)) (hx : tw_do mi pc L S h len (.invokevirtual i) = some (.inr (.inl σ))) : tw_K p l e R s m args below meth c Q base b0 L0 k0 k1 cA D xs mi pc L S h := by
  obtain ⟨hX, hB, hM, hrt, hown, hlk, hnm, hts⟩ := C
  simp only [tw_do] at hx
  replace hx := tw_gS.mp hx
  obtain ⟨hl, hx⟩ := hx
  obtain rfl := eq_of_beq hl
  replace hx := Option.bind_eq_some_iff.mp hx
  obtain ⟨q, hce, hx⟩ := hx
  obtain ⟨hok, hoi⟩ := tw_cok hce
  obtain ⟨⟨o, i'⟩, kd, n, ts, ps, tp, x0, ow⟩ := q
  cases hoi
  simp only [tw_cc] at hok
  dsimp only at hx
  replace hx := Option.bind_eq_some_iff.mp hx
  obtain ⟨⟨a, T_a⟩, hq, hx⟩ := hx
  have hS := tw_pRS hq
  dsimp only at hx
  replace hx := tw_gS.mp hx
  obtain ⟨hz, hx⟩ := hx
  split at hx
  · replace hx := Option.bind_eq_some_iff.mp hx
    obtain ⟨t, ht, hx⟩ := hx
    exact (tw_inv_no hx).elim
  · cases hx
end TWJ
/-- what a step does: the heap's size, whose frame it is, whether it calls -/
def tw_ic : Instr → Bool
  | .invokestatic _ => true
  | .invokespecial _ => true
  | .invokevirtual _ => true
  | _ => false
def tw_gd (mi : Nat) (h : tw_H) (ins : Instr) (o : tw_O) : Prop := match o with
  | .inl r => r.2 = h
  | .inr (.inl σ) => σ.1 = mi ∧ h.1 ≤ σ.2.2.2.2.1 ∧ h.2.1 ≤ σ.2.2.2.2.2.1
  | .inr (.inr (σ, k)) => σ.2.2.2.2 = h ∧ k.1 = mi ∧ tw_ic ins = true
def tw_P (mi : Nat) (h : tw_H) (ins : Instr) (x : Option tw_O) : Prop := ∀ o, x = some o → tw_gd mi h ins o
section TWP
variable {mi : Nat} {h : tw_H} {ins : Instr}
theorem tw_P0 : tw_P mi h ins none := fun o q => by cases q
theorem tw_Pg {b : Bool} {x : Option tw_O} (k : tw_P mi h ins x) : tw_P mi h ins (tw_g b x) := fun o q => k o (tw_gS.mp q).2
theorem tw_Pb {α : Type} {x : Option α} {f : α → Option tw_O} (k : ∀ a, tw_P mi h ins (f a)) : tw_P mi h ins (x.bind f) := fun o q => by
  obtain ⟨a, -, q⟩ := Option.bind_eq_some_iff.mp q
  exact k a o q
theorem tw_Pt {pc : Nat} {off : Int} {k : Nat → Option tw_O} (kk : ∀ t, tw_P mi h ins (k t)) : tw_P mi h ins (tw_to pc off k) := tw_Pg (kk _)
theorem tw_Pn {h' : tw_H} {pc : Nat} {L S : List Value} (q : h.1 ≤ h'.1 ∧ h.2.1 ≤ h'.2.1) : tw_P mi h ins (tw_nx mi pc L S h') := fun o z => by
  cases z
  exact ⟨rfl, q⟩
theorem tw_Pi {pc t : Nat} {L T vs : List Value} (q : tw_ic ins = true) : tw_P mi h ins (tw_inv mi pc L T h t vs) := tw_Pg (fun o z => by cases z; exact ⟨rfl, rfl, q⟩)
theorem tw_Pr {v : Option Value} : tw_P mi h ins (some (.inl (v, h))) := fun o z => by cases z; rfl
theorem tw_do_gd {pc len : Nat} {L S : List Value} : tw_P mi h ins (tw_do mi pc L S h len ins) := by
  unfold tw_do
  split <;>
    repeat' (first | exact tw_P0 | exact tw_Pi rfl | exact tw_Pr | exact tw_Pn ⟨Nat.le_refl _, Nat.le_refl _⟩ | exact tw_Pn ⟨Nat.le_add_right _ _, Nat.le_add_right _ _⟩ | refine tw_Pg ?_ | refine tw_Pb fun _ => ?_ | refine tw_Pt fun _ => ?_ | split)
end TWP
theorem tw_stp_gd {σ : tw_S} {o : tw_O} (hs : tw_stp σ = some o) : ∃ ins len, decode (tw_c σ.1) σ.2.1 = .ok (ins, len) ∧ tw_do σ.1 σ.2.1 σ.2.2.1 σ.2.2.2.1 σ.2.2.2.2 len ins = some o ∧ tw_gd σ.1 σ.2.2.2.2 ins o := by
  unfold tw_stp at hs
  split at hs
  · rename_i ins len hd
    exact ⟨ins, len, hd, hs, tw_do_gd o hs⟩
  · cases hs
theorem tw_run_gd : ∀ (F : Nat) (σ : tw_S) (r : tw_Q), tw_run F σ = some r → σ.2.2.2.2.1 ≤ r.2.1 ∧ σ.2.2.2.2.2.1 ≤ r.2.2.1
  | 0, σ, r, h => by simp [tw_run] at h
  | F + 1, σ, r, h => by
    have ih := tw_run_gd F
    simp only [tw_run] at h
    cases hs : tw_stp σ with
    | none => rw [hs] at h; cases h
    | some o =>
      rw [hs] at h
      obtain ⟨ins, len, -, -, hg⟩ := tw_stp_gd hs
      rcases o with x | σ' | ⟨σ1, k⟩
      · simp only at h
        cases h
        have hg : r.2 = σ.2.2.2.2 := hg
        rw [hg]
        exact ⟨Nat.le_refl _, Nat.le_refl _⟩
      · have h1 := ih _ _ h
        have hg : σ'.1 = σ.1 ∧ σ.2.2.2.2.1 ≤ σ'.2.2.2.2.1 ∧ σ.2.2.2.2.2.1 ≤ σ'.2.2.2.2.2.1 := hg
        exact ⟨Nat.le_trans hg.2.1 h1.1, Nat.le_trans hg.2.2 h1.2⟩
      · simp only at h
        obtain ⟨r1, h1, h2⟩ := Option.bind_eq_some_iff.mp h
        have g1 := ih _ _ h1
        have g2 := ih _ _ h2
        have hg : σ1.2.2.2.2 = σ.2.2.2.2 := hg.1
        rw [hg] at g1
        exact ⟨Nat.le_trans g1.1 g2.1, Nat.le_trans g1.2 g2.2⟩
