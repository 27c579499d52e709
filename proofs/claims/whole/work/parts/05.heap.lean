/-! the steps that read and write the heap, and the JDK's own calls -/
theorem tw_fitS {t : FieldType} {v : Value} {base b0 : Nat} (h : tw_fit t v = true) : narrow t (tw_v base b0 v) = tw_v base b0 v ∧ fits t (tw_v base b0 v) = true := by
  cases t <;> cases v <;> first | (simp [tw_fit] at h; done) | exact ⟨rfl, rfl⟩
theorem tw_map_get {fs : List Value} {k : Nat} {v : Value} (base b0 : Nat) (h : fs[k]? = some v) : (fs.map (tw_v base b0))[k]? = some (tw_v base b0 v) := by
  rw [List.getElem?_map, h]; rfl
theorem tw_df_map (base b0 : Nat) (c : Nat) : (tw_df c).map (tw_v base b0) = tw_df c := by
  unfold tw_df
  split <;> rfl
theorem tw_rf_v (base b0 : Nat) (o : Option Nat) : tw_v base b0 (tw_rf o) = va_rf (o.map (tw_ad base b0)) := by cases o <;> rfl
section TWH
variable {p : Program} {l : Launch} {e : Env} {R : Room} {s : State} {m : MethodId} {args : Array Value} {below : List Frame} {meth : Method} {c : Code} {Q : State → Prop} {base b0 L0 k0 k1 : Nat} {cA : Nat → ClassId} {D : va_G} {xs : Nat → Int32} {mi pc len : Nat} {L S : List Value} {h : tw_H} {σ : tw_S}
theorem tw_n_getfield {n : Nat} (C : tw_Cx p s m args meth c mi) (Wd : tw_Wd cA D s) (hf : tw_rk mi ≤ R.frames ∧ 36 * tw_rk mi ≤ R.locals) (hcb : σ.2.2.2.2.1 ≤ R.cells + k0) (hsb : σ.2.2.2.2.2.1 ≤ R.slots + k1) (K : tw_K p l e R s m args below meth c Q base b0 L0 k0 k1 cA D xs σ.1 σ.2.1 σ.2.2.1 σ.2.2.2.1 σ.2.2.2.2) (hd : decode (tw_c mi) pc = .ok (.getfield n, len)) (hx : tw_do mi pc L S h len (.getfield n) = some (.inr (.inl σ))) : tw_K p l e R s m args below meth c Q base b0 L0 k0 k1 cA D xs mi pc L S h := by
  obtain ⟨hX, hB, hM, hrt, hown, hlk, hnm, hts⟩ := C
  simp only [tw_do] at hx
  replace hx := tw_gS.mp hx
  obtain ⟨hl, hx⟩ := hx
  obtain rfl := eq_of_beq hl
  replace hx := Option.bind_eq_some_iff.mp hx
  obtain ⟨q, hfe, hx⟩ := hx
  replace hx := Option.bind_eq_some_iff.mp hx
  obtain ⟨⟨a, T_a⟩, hq, hx⟩ := hx
  obtain rfl := tw_pRS hq
  dsimp only at hx
  replace hx := tw_gS.mp hx
  obtain ⟨hz, hx⟩ := hx
  have hz := of_decide_eq_true hz
  split at hx
  · rename_i c2 fs hcell
    replace hx := tw_gS.mp hx
    obtain ⟨hm, hx⟩ := hx
    have hm := of_decide_eq_true hm
    replace hx := Option.bind_eq_some_iff.mp hx
    obtain ⟨v, hv, hx⟩ := hx
    obtain rfl := tw_nxS hx
    obtain ⟨f1, f2, f3⟩ := tw_fok hfe hm
    intro H ls locs cells slots hR hL hlo hc hs
    obtain ⟨hat, -⟩ := hR.at hz hcell
    exact va_get (D := D) (cl := tw_cl) (ws := [(tw_ad base b0 a, .inr (c2, fs.map (tw_v base b0)))]) (tys := tw_tys cA) hX hB hts (fun w hw => tw_gt_of (tw_lay _ f1 w hw) (by obtain ⟨k, -, rfl⟩ := List.mem_map.mp hw; unfold u_lay; split <;> rfl)) hown Wd.1 (fun k q hk => by
      cases k with
      | zero => cases hk; exact hat
      | succ k => cases hk) 0 rfl (tw_cls f1) _ f2 (hts _ (tw_gt_of f3 rfl)) (fun _ z => z) (tw_map_get base b0 hv) hd (K H ls locs cells slots hR hL hlo hc hs)
  · cases hx
theorem tw_n_putfield {n : Nat} (C : tw_Cx p s m args meth c mi) (Wd : tw_Wd cA D s) (hf : tw_rk mi ≤ R.frames ∧ 36 * tw_rk mi ≤ R.locals) (hcb : σ.2.2.2.2.1 ≤ R.cells + k0) (hsb : σ.2.2.2.2.2.1 ≤ R.slots + k1) (K : tw_K p l e R s m args below meth c Q base b0 L0 k0 k1 cA D xs σ.1 σ.2.1 σ.2.2.1 σ.2.2.2.1 σ.2.2.2.2) (hd : decode (tw_c mi) pc = .ok (.putfield n, len)) (hx : tw_do mi pc L S h len (.putfield n) = some (.inr (.inl σ))) : tw_K p l e R s m args below meth c Q base b0 L0 k0 k1 cA D xs mi pc L S h := by
  obtain ⟨hX, hB, hM, hrt, hown, hlk, hnm, hts⟩ := C
  simp only [tw_do] at hx
  replace hx := tw_gS.mp hx
  obtain ⟨hl, hx⟩ := hx
  obtain rfl := eq_of_beq hl
  replace hx := Option.bind_eq_some_iff.mp hx
  obtain ⟨q, hfe, hx⟩ := hx
  replace hx := Option.bind_eq_some_iff.mp hx
  obtain ⟨⟨v, T_v⟩, hq, hx⟩ := hx
  obtain rfl := tw_pVS hq
  dsimp only at hx
  replace hx := Option.bind_eq_some_iff.mp hx
  obtain ⟨⟨a, T_a⟩, hq, hx⟩ := hx
  obtain rfl := tw_pRS hq
  dsimp only at hx
  replace hx := tw_gS.mp hx
  obtain ⟨hz, hx⟩ := hx
  have hz := of_decide_eq_true hz
  split at hx
  · rename_i c2 fs hcell
    replace hx := tw_gS.mp hx
    obtain ⟨hm, hx⟩ := hx
    simp only [Bool.and_eq_true, decide_eq_true_eq] at hm
    obtain ⟨hm, hft, hpk, hln⟩ := hm
    obtain rfl := tw_nxS hx
    obtain ⟨f1, f2, f3⟩ := tw_fok hfe hm
    obtain ⟨n1, n2⟩ := tw_fitS (base := base) (b0 := b0) hft
    obtain ⟨j, rfl⟩ : ∃ j, a = j + 1 := ⟨a - 1, by omega⟩
    intro H ls locs cells slots hR hL hlo hc hs
    obtain ⟨hat, hbs⟩ := hR.at hz hcell
    have hin : ∀ w ∈ u_ws (tw_R c2) (tw_T c2) (tw_N c2), w ∈ tw_gt := fun w hw => tw_gt_of (tw_lay _ f1 w hw) (by obtain ⟨k, -, rfl⟩ := List.mem_map.mp hw; unfold u_lay; split <;> rfl)
    have hlink := hts _ (tw_gt_of f3 rfl)
    have hKn := Wd.1.1 c2 _ (tw_cls f1)
    have hap : ∀ x y, x < tw_N c2 → y < tw_N c2 → x ≠ y → (D.2 c2) x ≠ (D.2 c2) y := va_apart (own := tw_R (tw_ow mi)) hts hin (tw_t c2) (tw_tk c2 f1) (tw_nm c2 f1) Wd.1 (tw_cls f1)
    obtain ⟨r, h1, cell, q1, q2, q3, q4⟩ := hat
    obtain rfl : r = (tw_R c2, tw_T c2, tw_N c2) := Option.some.inj (h1.symm.trans (tw_cls f1))
    obtain ⟨hS, hfc, kC, hkC, hkind⟩ := hKn
    obtain ⟨cf, kf, fi, f, hi, hsl⟩ := hS _ f2
    have hlay := hts _ (hin _ (u_in_lay f2))
    have hst := (u_facts hfc hkC (u_lays hts hin f2) hi).1
    have fin : ∀ H' : Heap, H'[tw_ad base b0 (j + 1)]? = some (cell.setSlot (D.2 c2 q.2.2.1) (tw_v base b0 v)) → H'.size = H.size → (∀ q, q ≠ tw_ad base b0 (j + 1) → H'[q]? = H[q]?) → tw_Rel base b0 L0 cA D xs (tw_set h (j + 1) (.inr (.inr (c2, fs.set q.2.2.1 v)))) s H' := fun H' e1 e2 e3 =>
      hR.set e2 ⟨_, tw_cls f1, t_OB.to (V := updV (vp_V (fs.map (tw_v base b0))) q.2.2.1 (tw_v base b0 v)) ⟨_, e1, q2, q3, t_set q4 hap f2 _⟩ (fun i _ => by rw [vp_updV_set (by simpa using hln)]; rw [List.map_set])⟩ e3
    have hlo' : ∀ z ∈ locs ++ [⟨tw_ad base b0 (j + 1), D.2 c2 q.2.2.1⟩], base ≤ z.base := fun z hz' => by
      rcases List.mem_append.mp hz' with z1 | z1
      · exact hlo z z1
      · obtain rfl := List.mem_singleton.mp z1
        exact hbs
    by_cases hfin : (tw_T c2 q.2.2.1).2.2.2 = true
    · unfold tw_pok at hpk
      rw [hfin] at hpk
      simp only [Bool.or_eq_true, Bool.and_eq_true, decide_eq_true_eq] at hpk
      obtain ⟨p1, p2⟩ : (tw_y mi).name = "<init>" ∧ (tw_T c2 q.2.2.1).1 = tw_R (tw_ow mi) := by
        rcases hpk with z | z
        · cases z
        · exact z
      unfold u_lay at hlay
      rw [if_pos hfin] at hlay
      have hcf : m.cls = cf := by
        obtain ⟨_, _, c', _, _, _, -, -, hf', -, -, -, hown2, -⟩ := Cond.laysFinal_spec hlay
        have e1 : c' = cf := by have := hi.symm.trans hf'; simp at this; exact this.1.symm
        rw [p2] at hown2
        rw [← e1]; exact Option.some.inj (hown.symm.trans hown2)
      have h6 := u_fits hfc hkC hkind (Or.inr hlay) hi (tw_tk c2 f1 _ f2) n1 n2
      refine W.putFinK hX hB hown hlink hi hst hcf (hnm p1) (by rw [q2]; exact h6) q1 q3 (by rw [hsl]; exact k2_hasslot (q4 _ f2)) rfl rfl hd fun H' e1 e2 e3 => ?_
      rw [hsl] at e1 ⊢
      exact K H' ls _ cells slots (fin H' e1 e2 e3) hL hlo' hc hs
    · unfold u_lay at hlay
      rw [if_neg hfin] at hlay
      have h6 := u_store hfc hkC hkind hlay hi (tw_tk c2 f1 _ f2) n1 n2
      refine W.putK hX hB (f := f) ⟨hown, hlink, ⟨_, _, _, hi⟩, hst⟩ (by rw [q2]; exact h6) q1 q3 (by rw [hsl]; exact k2_hasslot (q4 _ f2)) rfl rfl hd fun H' e1 e2 e3 => ?_
      rw [hsl] at e1 ⊢
      exact K H' ls _ cells slots (fin H' e1 e2 e3) hL hlo' hc hs
  · cases hx
theorem tw_n_iaload (C : tw_Cx p s m args meth c mi) (Wd : tw_Wd cA D s) (hf : tw_rk mi ≤ R.frames ∧ 36 * tw_rk mi ≤ R.locals) (hcb : σ.2.2.2.2.1 ≤ R.cells + k0) (hsb : σ.2.2.2.2.2.1 ≤ R.slots + k1) (K : tw_K p l e R s m args below meth c Q base b0 L0 k0 k1 cA D xs σ.1 σ.2.1 σ.2.2.1 σ.2.2.2.1 σ.2.2.2.2) (hd : decode (tw_c mi) pc = .ok (.iaload, len)) (hx : tw_do mi pc L S h len (.iaload) = some (.inr (.inl σ))) : tw_K p l e R s m args below meth c Q base b0 L0 k0 k1 cA D xs mi pc L S h := by
  obtain ⟨hX, hB, hM, hrt, hown, hlk, hnm, hts⟩ := C
  simp only [tw_do] at hx
  replace hx := tw_gS.mp hx
  obtain ⟨hl, hx⟩ := hx
  obtain rfl := eq_of_beq hl
  replace hx := Option.bind_eq_some_iff.mp hx
  obtain ⟨⟨i, T_i⟩, hq, hx⟩ := hx
  obtain rfl := tw_pIS hq
  dsimp only at hx
  replace hx := Option.bind_eq_some_iff.mp hx
  obtain ⟨⟨a, T_a⟩, hq, hx⟩ := hx
  obtain rfl := tw_pRS hq
  dsimp only at hx
  split at hx
  · rename_i n f hcell
    replace hx := tw_gS.mp hx
    obtain ⟨hm, hx⟩ := hx
    obtain ⟨hv1, hv2⟩ := tw_viS hm
    obtain rfl := tw_nxS hx
    intro H ls locs cells slots hR hL hlo hc hs
    by_cases hz : a = 0
    · subst hz
      obtain ⟨r1, r2, r3, ⟨scr, g1, g2, g3, g4, g5⟩, r5, r6⟩ := id hR
      rw [r5] at hcell
      cases hcell
      exact W.iald (v := .int (xs i.toNatClampNeg)) hX hB g1 g2 g3 (by rw [g4]; exact hv1) (g5 _ hv2) rfl rfl hd (K H ls locs cells slots hR hL hlo hc hs)
    · obtain ⟨hat, -⟩ := hR.at hz hcell
      exact va_iald (D := D) (cl := tw_cl) (ws := [(tw_ad base b0 a, .inl (cA 0, n, .inl f))]) hX hB Wd.1 (fun k q hk => by
        cases k with
        | zero => cases hk; exact hat
        | succ k => cases hk) 0 0 rfl rfl hv1 hd (K H ls locs cells slots hR hL hlo hc hs)
  · cases hx
theorem tw_n_iastore (C : tw_Cx p s m args meth c mi) (Wd : tw_Wd cA D s) (hf : tw_rk mi ≤ R.frames ∧ 36 * tw_rk mi ≤ R.locals) (hcb : σ.2.2.2.2.1 ≤ R.cells + k0) (hsb : σ.2.2.2.2.2.1 ≤ R.slots + k1) (K : tw_K p l e R s m args below meth c Q base b0 L0 k0 k1 cA D xs σ.1 σ.2.1 σ.2.2.1 σ.2.2.2.1 σ.2.2.2.2) (hd : decode (tw_c mi) pc = .ok (.iastore, len)) (hx : tw_do mi pc L S h len (.iastore) = some (.inr (.inl σ))) : tw_K p l e R s m args below meth c Q base b0 L0 k0 k1 cA D xs mi pc L S h := by
  obtain ⟨hX, hB, hM, hrt, hown, hlk, hnm, hts⟩ := C
  simp only [tw_do] at hx
  replace hx := tw_gS.mp hx
  obtain ⟨hl, hx⟩ := hx
  obtain rfl := eq_of_beq hl
  replace hx := Option.bind_eq_some_iff.mp hx
  obtain ⟨⟨x, T_x⟩, hq, hx⟩ := hx
  obtain rfl := tw_pIS hq
  dsimp only at hx
  replace hx := Option.bind_eq_some_iff.mp hx
  obtain ⟨⟨i, T_i⟩, hq, hx⟩ := hx
  obtain rfl := tw_pIS hq
  dsimp only at hx
  replace hx := Option.bind_eq_some_iff.mp hx
  obtain ⟨⟨a, T_a⟩, hq, hx⟩ := hx
  obtain rfl := tw_pRS hq
  dsimp only at hx
  replace hx := tw_gS.mp hx
  obtain ⟨hz, hx⟩ := hx
  have hz := of_decide_eq_true hz
  split at hx
  · rename_i n f hcell
    replace hx := tw_gS.mp hx
    obtain ⟨hm, hx⟩ := hx
    obtain ⟨hv1, hv2⟩ := tw_viS hm
    obtain rfl := tw_nxS hx
    obtain ⟨j, rfl⟩ : ∃ j, a = j + 1 := ⟨a - 1, by omega⟩
    intro H ls locs cells slots hR hL hlo hc hs
    obtain ⟨hat, hbs⟩ := hR.at hz hcell
    have hlo' : ∀ z ∈ locs ++ [⟨tw_ad base b0 (j + 1), i.toNatClampNeg⟩], base ≤ z.base := fun z hz' => by
      rcases List.mem_append.mp hz' with z1 | z1
      · exact hlo z z1
      · obtain rfl := List.mem_singleton.mp z1
        exact hbs
    refine W.iast hX hB (show H[tw_ad base b0 (j + 1)]? = some (vp_cell (cA 0) (n, .inl f)) from hat) ((Wd.1.2 0 _ rfl).1 n (fun j => .int (f j))) (fun q => by cases q) (by show ¬ (i < 0 ∨ (arrV _ _ _).slots.size ≤ _); rw [arrV_size]; exact hv1) rfl rfl hd fun H1 e1 z oq => ?_
    refine K H1 ls _ cells slots (hR.set z ?_ oq) hL hlo' hc hs
    show H1[base + j]? = some (vp_cell _ _)
    refine Eq.trans e1 ?_
    rw [vp_cell_i, vp_cell_i, arrV_store]
    congr 2
    funext q
    by_cases hq : q = i.toNatClampNeg
    · subst hq
      simp [updV, upd]
    · simp [updV, upd, hq]
  · cases hx
theorem tw_n_aaload (C : tw_Cx p s m args meth c mi) (Wd : tw_Wd cA D s) (hf : tw_rk mi ≤ R.frames ∧ 36 * tw_rk mi ≤ R.locals) (hcb : σ.2.2.2.2.1 ≤ R.cells + k0) (hsb : σ.2.2.2.2.2.1 ≤ R.slots + k1) (K : tw_K p l e R s m args below meth c Q base b0 L0 k0 k1 cA D xs σ.1 σ.2.1 σ.2.2.1 σ.2.2.2.1 σ.2.2.2.2) (hd : decode (tw_c mi) pc = .ok (.aaload, len)) (hx : tw_do mi pc L S h len (.aaload) = some (.inr (.inl σ))) : tw_K p l e R s m args below meth c Q base b0 L0 k0 k1 cA D xs mi pc L S h := by
  obtain ⟨hX, hB, hM, hrt, hown, hlk, hnm, hts⟩ := C
  simp only [tw_do] at hx
  replace hx := tw_gS.mp hx
  obtain ⟨hl, hx⟩ := hx
  obtain rfl := eq_of_beq hl
  replace hx := Option.bind_eq_some_iff.mp hx
  obtain ⟨⟨i, T_i⟩, hq, hx⟩ := hx
  obtain rfl := tw_pIS hq
  dsimp only at hx
  replace hx := Option.bind_eq_some_iff.mp hx
  obtain ⟨⟨a, T_a⟩, hq, hx⟩ := hx
  obtain rfl := tw_pRS hq
  dsimp only at hx
  replace hx := tw_gS.mp hx
  obtain ⟨hz, hx⟩ := hx
  have hz := of_decide_eq_true hz
  split at hx
  · rename_i t n f hcell
    replace hx := tw_gS.mp hx
    obtain ⟨hm, hx⟩ := hx
    simp only [Bool.and_eq_true, Bool.or_eq_true, decide_eq_true_eq] at hm
    obtain ⟨hm, hk⟩ := hm
    obtain ⟨hv1, hv2⟩ := tw_viS hm
    obtain rfl := tw_nxS hx
    obtain ⟨E, hE, ht⟩ : ∃ E, E = tw_aR t ∧ (tw_tys cA)[t]? = some (cA t, .object E) := by
      rcases hk with rfl | rfl
      · exact ⟨_, rfl, rfl⟩
      · exact ⟨_, rfl, rfl⟩
    intro H ls locs cells slots hR hL hlo hc hs
    obtain ⟨hat, -⟩ := hR.at hz hcell
    refine va_aldq (D := D) (cl := tw_cl) (ws := [(tw_ad base b0 a, .inl (cA t, n, .inr (.inr (.inr (.inr fun j => (f j).map (tw_ad base b0))))))]) (tys := tw_tys cA) hX hB Wd.1 (fun k q hk => by
      cases k with
      | zero => cases hk; exact hat
      | succ k => cases hk) 0 t rfl ht hv1 hd ?_
    rw [← tw_rf_v]
    exact K H ls locs cells slots hR hL hlo hc hs
  · cases hx
theorem tw_n_aastore (C : tw_Cx p s m args meth c mi) (Wd : tw_Wd cA D s) (hf : tw_rk mi ≤ R.frames ∧ 36 * tw_rk mi ≤ R.locals) (hcb : σ.2.2.2.2.1 ≤ R.cells + k0) (hsb : σ.2.2.2.2.2.1 ≤ R.slots + k1) (K : tw_K p l e R s m args below meth c Q base b0 L0 k0 k1 cA D xs σ.1 σ.2.1 σ.2.2.1 σ.2.2.2.1 σ.2.2.2.2) (hd : decode (tw_c mi) pc = .ok (.aastore, len)) (hx : tw_do mi pc L S h len (.aastore) = some (.inr (.inl σ))) : tw_K p l e R s m args below meth c Q base b0 L0 k0 k1 cA D xs mi pc L S h := by
  obtain ⟨hX, hB, hM, hrt, hown, hlk, hnm, hts⟩ := C
  simp only [tw_do] at hx
  replace hx := tw_gS.mp hx
  obtain ⟨hl, hx⟩ := hx
  obtain rfl := eq_of_beq hl
  replace hx := Option.bind_eq_some_iff.mp hx
  obtain ⟨⟨v, T_v⟩, hq, hx⟩ := hx
  obtain rfl := tw_pVS hq
  dsimp only at hx
  replace hx := Option.bind_eq_some_iff.mp hx
  obtain ⟨⟨i, T_i⟩, hq, hx⟩ := hx
  obtain rfl := tw_pIS hq
  dsimp only at hx
  replace hx := Option.bind_eq_some_iff.mp hx
  obtain ⟨⟨a, T_a⟩, hq, hx⟩ := hx
  obtain rfl := tw_pRS hq
  dsimp only at hx
  replace hx := tw_gS.mp hx
  obtain ⟨hz, hx⟩ := hx
  simp only [Bool.and_eq_true, decide_eq_true_eq] at hz
  obtain ⟨hz, hv0⟩ := hz
  split at hx
  · rename_i t n f hcell
    replace hx := tw_gS.mp hx
    obtain ⟨hm, hx⟩ := hx
    simp only [Bool.and_eq_true, Bool.or_eq_true, decide_eq_true_eq] at hm
    obtain ⟨hm, hk⟩ := hm
    obtain ⟨hv1, hv2⟩ := tw_viS hm
    replace hx := Option.bind_eq_some_iff.mp hx
    obtain ⟨o, ho, hx⟩ := hx
    obtain rfl := tw_nxS hx
    obtain ⟨E, hE, ht⟩ : ∃ E, E = tw_aR t ∧ (tw_tys cA)[t]? = some (cA t, .object E) := by
      rcases hk with rfl | rfl
      · exact ⟨_, rfl, rfl⟩
      · exact ⟨_, rfl, rfl⟩
    obtain ⟨j, rfl⟩ : ∃ j, a = j + 1 := ⟨a - 1, by omega⟩
    intro H ls locs cells slots hR hL hlo hc hs
    obtain ⟨hat, hbs⟩ := hR.at hz hcell
    have hlo' : ∀ z ∈ locs ++ [⟨tw_ad base b0 (j + 1), i.toNatClampNeg⟩], base ≤ z.base := fun z hz' => by
      rcases List.mem_append.mp hz' with z1 | z1
      · exact hlo z z1
      · obtain rfl := List.mem_singleton.mp z1
        exact hbs
    have hcl : H[tw_ad base b0 (j + 1)]? = some (vp_cell (cA t) (n, .inr (.inr (.inr (.inr fun j => (f j).map (tw_ad base b0)))))) := hat
    have fin : ∀ H1 : Heap, H1[tw_ad base b0 (j + 1)]? = some ((vp_cell (cA t) (n, .inr (.inr (.inr (.inr fun j => (f j).map (tw_ad base b0)))))).setSlot i.toNatClampNeg (va_rf (o.map (tw_ad base b0)))) → H1.size = H.size → (∀ q, q ≠ tw_ad base b0 (j + 1) → H1[q]? = H[q]?) → tw_Rel base b0 L0 cA D xs (tw_set h (j + 1) (.inr (.inl (t, n, va_up f i.toNatClampNeg o)))) s H1 := fun H1 e1 z oq => by
      refine hR.set z ?_ oq
      show H1[base + j]? = some (vp_cell _ _)
      refine Eq.trans e1 ?_
      rw [vp_cell_q, vp_cell_q, arrV_store]
      congr 2
      funext q
      by_cases hq : q = i.toNatClampNeg
      · subst hq
        simp [updV, va_up]
      · simp [updV, va_up, hq]
    unfold tw_el at ho
    split at ho
    · cases ho
      refine va_WaastN (C := E) hX hB hcl ((Wd.1.2 t _ ht).1 n (fun j => va_rf ((f j).map (tw_ad base b0)))) (fun h => by cases h) (by show ¬ (i < 0 ∨ (arrV _ _ _).slots.size ≤ _); rw [arrV_size]; exact hv1) rfl rfl hd fun H1 e1 z oq => ?_
      exact K H1 ls _ cells slots (fin H1 e1 z oq) hL hlo' hc hs
    · rename_i b
      split at ho
      · rename_i c2 fs hb
        split at ho
        · rename_i hct
          cases ho
          have hb0 : b ≠ 0 := fun q => hv0 (by rw [q])
          obtain ⟨hbt, -⟩ := hR.at hb0 hb
          have hlt : i.toNatClampNeg < n := hv2
          have h0 : ¬ i < 0 := fun q => hv1 (Or.inl q)
          obtain ⟨r', hr', cellV, g1, g2, g3, -⟩ := hbt
          obtain ⟨hc12, rfl⟩ := tw_clt hr'
          have hcls := (Wd.1.1 c2 _ hr').2
          obtain ⟨kA, comp, k1', k2', k3', -⟩ := (Wd.1.2 t _ ht).2
          obtain ⟨kE, hkE, -⟩ := Vm.findClass_spec k3'
          obtain ⟨kC, hkC, -⟩ := hcls.2
          have hasg : s.vm.assignable (D.1 c2) comp = true := by
            have same : tw_R c2 = E → s.vm.assignable (D.1 c2) comp = true := fun q => by
              have e1 : comp = D.1 c2 := by
                have := hcls.1
                rw [q] at this
                exact Option.some.inj (k3'.symm.trans this)
              rw [e1]
              exact va_assign hcls
            have up : va_Nw (.castable (tw_R c2) E) s → s.vm.assignable (D.1 c2) comp = true := fun q => vb_asgC q comp (D.1 c2) k3' hcls.1
            rcases hct with ⟨q1, q2⟩ | ⟨q1, q2⟩
            · subst q1; subst q2; exact same hE.symm
            · subst q1
              rcases q2 with q2 | q2 | q2
              · subst q2; exact same hE.symm
              · subst q2
                rw [hE] at up
                exact up (Wd.2.2.2 _ tw_w_casB rfl)
              · subst q2
                rw [hE] at up
                exact up (Wd.2.2.2 _ tw_w_casS rfl)
          refine W.aast hX hB hcl (fun q h => by cases h) (fun h => by cases h) k1' k2' rfl hkE ⟨h0, by show _ < (arrV _ _ _).slots.size; rw [arrV_size]; exact hlt⟩ g1 (fun q h => by rw [g3] at h; cases h) (by rw [g2]; exact hkC) (by rw [g2]; exact hasg) rfl rfl hd fun H1 e1 z oq => ?_
          exact K H1 ls _ cells slots (fin H1 e1 z oq) hL hlo' hc hs
        · cases ho
      · cases ho
    · cases ho
  · cases hx
theorem tw_n_alen (C : tw_Cx p s m args meth c mi) (Wd : tw_Wd cA D s) (hf : tw_rk mi ≤ R.frames ∧ 36 * tw_rk mi ≤ R.locals) (hcb : σ.2.2.2.2.1 ≤ R.cells + k0) (hsb : σ.2.2.2.2.2.1 ≤ R.slots + k1) (K : tw_K p l e R s m args below meth c Q base b0 L0 k0 k1 cA D xs σ.1 σ.2.1 σ.2.2.1 σ.2.2.2.1 σ.2.2.2.2) (hd : decode (tw_c mi) pc = .ok (.arraylength, len)) (hx : tw_do mi pc L S h len (.arraylength) = some (.inr (.inl σ))) : tw_K p l e R s m args below meth c Q base b0 L0 k0 k1 cA D xs mi pc L S h := by
  obtain ⟨hX, hB, hM, hrt, hown, hlk, hnm, hts⟩ := C
  simp only [tw_do] at hx
  replace hx := tw_gS.mp hx
  obtain ⟨hl, hx⟩ := hx
  obtain rfl := eq_of_beq hl
  replace hx := Option.bind_eq_some_iff.mp hx
  obtain ⟨⟨a, T_a⟩, hq, hx⟩ := hx
  obtain rfl := tw_pRS hq
  dsimp only at hx
  split at hx
  · rename_i n f hcell
    obtain rfl := tw_nxS hx
    intro H ls locs cells slots hR hL hlo hc hs
    by_cases hz : a = 0
    · subst hz
      obtain ⟨r1, r2, r3, ⟨scr, g1, g2, g3, g4, g5⟩, r5, r6⟩ := id hR
      rw [r5] at hcell
      cases hcell
      exact W.alen (n := Int32.ofNat L0) hX hB g1 g2 (by rw [g4] <;> rfl) rfl rfl hd (K H ls locs cells slots hR hL hlo hc hs)
    · obtain ⟨hat, -⟩ := hR.at hz hcell
      exact va_alen (D := D) (cl := tw_cl) (ws := [(tw_ad base b0 a, .inl (cA 0, n, .inl f))]) hX hB Wd.1 (fun k q hk => by
        cases k with
        | zero => cases hk; exact hat
        | succ k => cases hk) 0 0 rfl rfl rfl hd (K H ls locs cells slots hR hL hlo hc hs)
  · rename_i t n f hcell
    replace hx := tw_gS.mp hx
    obtain ⟨hm, hx⟩ := hx
    simp only [Bool.and_eq_true, Bool.or_eq_true, decide_eq_true_eq] at hm
    obtain ⟨hz, hk⟩ := hm
    obtain rfl := tw_nxS hx
    obtain ⟨E, hE, ht⟩ : ∃ E, E = tw_aR t ∧ (tw_tys cA)[t]? = some (cA t, .object E) := by
      rcases hk with rfl | rfl
      · exact ⟨_, rfl, rfl⟩
      · exact ⟨_, rfl, rfl⟩
    intro H ls locs cells slots hR hL hlo hc hs
    obtain ⟨hat, -⟩ := hR.at hz hcell
    exact va_alen (D := D) (cl := tw_cl) (ws := [(tw_ad base b0 a, .inl (cA t, n, .inr (.inr (.inr (.inr fun j => (f j).map (tw_ad base b0))))))]) hX hB Wd.1 (fun k q hk => by
      cases k with
      | zero => cases hk; exact hat
      | succ k => cases hk) 0 t rfl ht rfl hd (K H ls locs cells slots hR hL hlo hc hs)
  · cases hx
theorem tw_n_new {n : Nat} (C : tw_Cx p s m args meth c mi) (Wd : tw_Wd cA D s) (hf : tw_rk mi ≤ R.frames ∧ 36 * tw_rk mi ≤ R.locals) (hcb : σ.2.2.2.2.1 ≤ R.cells + k0) (hsb : σ.2.2.2.2.2.1 ≤ R.slots + k1) (K : tw_K p l e R s m args below meth c Q base b0 L0 k0 k1 cA D xs σ.1 σ.2.1 σ.2.2.1 σ.2.2.2.1 σ.2.2.2.2) (hd : decode (tw_c mi) pc = .ok (.new n, len)) (hx : tw_do mi pc L S h len (.new n) = some (.inr (.inl σ))) : tw_K p l e R s m args below meth c Q base b0 L0 k0 k1 cA D xs mi pc L S h := by
  obtain ⟨hX, hB, hM, hrt, hown, hlk, hnm, hts⟩ := C
  simp only [tw_do] at hx
  replace hx := tw_gS.mp hx
  obtain ⟨hl, hx⟩ := hx
  obtain rfl := eq_of_beq hl
  replace hx := Option.bind_eq_some_iff.mp hx
  obtain ⟨q, hnw, hx⟩ := hx
  obtain rfl := tw_nxS hx
  obtain ⟨f1, f2, f3, f4⟩ := tw_nok hnw
  intro H ls locs cells slots hR hL hlo hc hs
  have hKn := Wd.1.1 q.2.1 _ (tw_cls f1)
  have hin : ∀ w ∈ u_ws (tw_R q.2.1) (tw_T q.2.1) (tw_N q.2.1), w ∈ tw_gt := fun w hw => tw_gt_of (tw_lay _ f1 w hw) (by obtain ⟨k, -, rfl⟩ := List.mem_map.mp hw; unfold u_lay; split <;> rfl)
  have hcb : h.1 + 1 ≤ R.cells + k0 := hcb
  have hsb : h.2.1 + tw_N q.2.1 ≤ R.slots + k1 := hsb
  refine W.newcK hX hB hown (hts _ (tw_gt_of f2 rfl)) (hts _ (tw_gt_of f3 rfl)) (hts _ (tw_gt_of f4 rfl)) rfl hd (by omega) (by omega) hKn.2.1 rfl fun H1 kC hkC e1 z1 o1 => ?_
  obtain ⟨hR', ha⟩ := hR.new (x := .inr (.inr (q.2.1, tw_df q.2.1))) (n := tw_N q.2.1) z1 (by
    show va_at D tw_cl (H.size, .inr (q.2.1, (tw_df q.2.1).map (tw_v base b0))) H1
    rw [tw_df_map]
    exact ⟨_, tw_cls f1, (u_born (tw_t q.2.1) hts hin hKn hkC e1 (tw_tk _ f1)).to (fun k hk => tw_dk _ f1 k hk)⟩) o1
  rw [← ha]
  exact K H1 ls locs (cells + 1) (slots + tw_N q.2.1) hR' hL hlo (by show cells + 1 + k0 = h.1 + 1; omega) (by show slots + tw_N q.2.1 + k1 = h.2.1 + tw_N q.2.1; omega)
theorem tw_n_newarray (C : tw_Cx p s m args meth c mi) (Wd : tw_Wd cA D s) (hf : tw_rk mi ≤ R.frames ∧ 36 * tw_rk mi ≤ R.locals) (hcb : σ.2.2.2.2.1 ≤ R.cells + k0) (hsb : σ.2.2.2.2.2.1 ≤ R.slots + k1) (K : tw_K p l e R s m args below meth c Q base b0 L0 k0 k1 cA D xs σ.1 σ.2.1 σ.2.2.1 σ.2.2.2.1 σ.2.2.2.2) (hd : decode (tw_c mi) pc = .ok (.newarray .int, len)) (hx : tw_do mi pc L S h len (.newarray .int) = some (.inr (.inl σ))) : tw_K p l e R s m args below meth c Q base b0 L0 k0 k1 cA D xs mi pc L S h := by
  obtain ⟨hX, hB, hM, hrt, hown, hlk, hnm, hts⟩ := C
  simp only [tw_do] at hx
  replace hx := tw_gS.mp hx
  obtain ⟨hl, hx⟩ := hx
  obtain rfl := eq_of_beq hl
  replace hx := Option.bind_eq_some_iff.mp hx
  obtain ⟨⟨n, T_n⟩, hq, hx⟩ := hx
  obtain rfl := tw_pIS hq
  dsimp only at hx
  replace hx := tw_gS.mp hx
  obtain ⟨hz, hx⟩ := hx
  simp only [Bool.and_eq_true, decide_eq_true_eq] at hz
  obtain ⟨hz1, hz2⟩ := hz
  have hz2 : n.toNatClampNeg ≤ 1000 := hz2
  obtain rfl := tw_nxS hx
  intro H ls locs cells slots hR hL hlo hc hs
  have hcb : h.1 + 1 ≤ R.cells + k0 := hcb
  have hsb : h.2.1 + n.toNatClampNeg ≤ R.slots + k1 := hsb
  refine va_newaK (atype := .int) hX hB (hts (.arrayClass .int) (tw_gt_of tw_w_arrI rfl)) rfl hd rfl (Int32.not_lt.mpr hz1) rfl (by show n.toNatClampNeg * 4 ≤ 536870912; omega) (by omega) (by show slots + n.toNatClampNeg ≤ R.slots; omega) rfl fun H1 cI e1 z1 o1 hAr hNm => ?_
  have hcI : cI = cA 0 := Option.some.inj (hNm.symm.trans (Wd.1.2 0 _ rfl).2)
  subst hcI
  obtain ⟨hR', ha⟩ := hR.new (x := .inl (n.toNatClampNeg, fun _ => 0)) (n := n.toNatClampNeg) z1 e1 o1
  rw [← ha]
  exact K H1 ls locs (cells + 1) (slots + n.toNatClampNeg) hR' hL hlo (by show cells + 1 + k0 = h.1 + 1; omega) (by show slots + n.toNatClampNeg + k1 = h.2.1 + n.toNatClampNeg; omega)
theorem tw_n_anewarray {i : Nat} (C : tw_Cx p s m args meth c mi) (Wd : tw_Wd cA D s) (hf : tw_rk mi ≤ R.frames ∧ 36 * tw_rk mi ≤ R.locals) (hcb : σ.2.2.2.2.1 ≤ R.cells + k0) (hsb : σ.2.2.2.2.2.1 ≤ R.slots + k1) (K : tw_K p l e R s m args below meth c Q base b0 L0 k0 k1 cA D xs σ.1 σ.2.1 σ.2.2.1 σ.2.2.2.1 σ.2.2.2.2) (hd : decode (tw_c mi) pc = .ok (.anewarray i, len)) (hx : tw_do mi pc L S h len (.anewarray i) = some (.inr (.inl σ))) : tw_K p l e R s m args below meth c Q base b0 L0 k0 k1 cA D xs mi pc L S h := by
  obtain ⟨hX, hB, hM, hrt, hown, hlk, hnm, hts⟩ := C
  simp only [tw_do] at hx
  replace hx := tw_gS.mp hx
  obtain ⟨hl, hx⟩ := hx
  obtain rfl := eq_of_beq hl
  replace hx := Option.bind_eq_some_iff.mp hx
  obtain ⟨q, haw, hx⟩ := hx
  replace hx := Option.bind_eq_some_iff.mp hx
  obtain ⟨⟨n, T_n⟩, hq, hx⟩ := hx
  obtain rfl := tw_pIS hq
  dsimp only at hx
  replace hx := tw_gS.mp hx
  obtain ⟨hz, hx⟩ := hx
  simp only [Bool.and_eq_true, decide_eq_true_eq] at hz
  obtain ⟨hz1, hz2⟩ := hz
  have hz2 : n.toNatClampNeg ≤ 1000 := hz2
  obtain rfl := tw_nxS hx
  obtain ⟨hk, hlk⟩ := tw_aok haw
  obtain ⟨t, ht⟩ : ∃ t, t = q.2.1 := ⟨_, rfl⟩
  rw [← ht] at hk hlk K
  intro H ls locs cells slots hR hL hlo hc hs
  have hcb : h.1 + 1 ≤ R.cells + k0 := hcb
  have hsb : h.2.1 + n.toNatClampNeg ≤ R.slots + k1 := hsb
  obtain ⟨hty, hov⟩ : (tw_tys cA)[t]? = some (cA t, .object (tw_aR t)) ∧ va_AO (tw_aR t) s := by
    rcases hk with rfl | rfl
    · exact ⟨rfl, Wd.2.1⟩
    · exact ⟨rfl, Wd.2.2.1⟩
  refine W.anew hX hB hown (hts _ (tw_gt_of hlk rfl)) (va_AO.use hov) rfl hd rfl (Int32.not_lt.mpr hz1) (by show n.toNatClampNeg * 4 ≤ 536870912; omega) (by omega) (by show slots + n.toNatClampNeg ≤ R.slots; omega) fun cI kA comp f1 f2 f3 f4 => ?_
  have hcI : cI = cA t := by
    obtain ⟨_, _, -, -, -, g⟩ := (Wd.1.2 t _ hty).2
    exact Option.some.inj (f1.symm.trans g)
  subst hcI
  generalize hH1 : H.push ({ cls := cA t, slots := Array.replicate n.toNatClampNeg .null, vm := .none } : Cell) = H1
  have z1 : H1.size = H.size + 1 := by rw [← hH1, Array.size_push]
  have e1 : H1[H.size]? = some (arrV (cA t) n.toNatClampNeg (fun _ => .null)) := by rw [← hH1, Array.getElem?_push_size, ← arrV_new]
  have o1 : ∀ q : Nat, q < H.size → H1[q]? = H[q]? := fun q hq => by rw [← hH1, Array.getElem?_push, if_neg (Nat.ne_of_lt hq)]
  obtain ⟨hR', ha⟩ := hR.new (x := .inr (.inl (t, n.toNatClampNeg, fun _ => none))) (n := n.toNatClampNeg) z1 e1 o1
  rw [← ha]
  exact K H1 ls locs (cells + 1) (slots + n.toNatClampNeg) hR' hL hlo (by show cells + 1 + k0 = h.1 + 1; omega) (by show slots + n.toNatClampNeg + k1 = h.2.1 + n.toNatClampNeg; omega)
end TWH
