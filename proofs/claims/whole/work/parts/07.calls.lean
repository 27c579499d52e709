/-! calls, and the whole: a run of the small machine is a run of the real one -/
def tw_ws (t : Nat) : List Cond := .code (tw_y t) (tw_c t) (tw_ml t) (tw_rt t) :: tw_gt
def tw_rm (t mc ms : Nat) : Room := { frames := tw_rk t, cells := mc, slots := ms, locals := 36 * tw_rk t }
def tw_Pc (base b0 L0 : Nat) (cA : Nat → ClassId) (D : va_G) (xs : Nat → Int32) (vs : List Value) (h : tw_H) : Array Value → State → Prop := fun a U => a = (vs.map (tw_v base b0)).toArray ∧ tw_Rel base b0 L0 cA D xs h U U.heap ∧ tw_Wd cA D U
def tw_Qc (base b0 L0 : Nat) (cA : Nat → ClassId) (D : va_G) (xs : Nat → Int32) (v : Option Value) (h : tw_H) : Array Value → State → Outcome → State → Prop := fun _ _ o t => o = .returned (v.map (tw_v base b0)) ∧ tw_Rel base b0 L0 cA D xs h t t.heap
def tw_M (l : Launch) (base b0 L0 : Nat) (cA : Nat → ClassId) (D : va_G) (xs : Nat → Int32) (t : Nat) : Prop := ∀ (vs : List Value) (h : tw_H) (v : Option Value) (h1 : tw_H), (∃ F, tw_run F (t, 0, tw_en t vs, [], h) = some (v, h1)) → (tw_ea vs).length ≤ tw_ml t →
  Met l (tw_y t) (tw_ws t) (tw_rm t (h1.1 - h.1) (h1.2.1 - h.2.1)) (tw_Pc base b0 L0 cA D xs vs h) (tw_Qc base b0 L0 cA D xs v h1) (h1.1 - h.1) (h1.2.1 - h.2.1) (fun q => base ≤ q)
theorem tw_gI {ws : List Cond} (h : ∀ w ∈ ws, w ∈ tw_gt) : GoodIn tw_gt ws := fun w hw => ⟨h w hw, good_of_word (List.mem_filter.mp (h w hw)).2⟩
theorem tw_mS {t : Nat} (h : t < 178) : Cond.code (tw_y t) (tw_c t) (tw_ml t) (tw_rt t) ∈ tw_gt ∧ plainName (tw_y t).cls = true ∧ (tw_y t).cls = tw_R (tw_ow t) ∧ ((tw_y t).cls ≠ "java/lang/invoke/MethodHandle" ∧ (tw_y t).cls ≠ "java/lang/invoke/VarHandle") ∧ tw_ml t ≤ 17 := by
  have h0 := tw_mok h
  simp only [tw_mc, Bool.and_eq_true, decide_eq_true_eq] at h0
  obtain ⟨a1, a2, a3, a4, a5, a6⟩ := h0
  exact ⟨tw_gt_of (tw_is.mem a1) rfl, a2, a3, ⟨a4, a5⟩, a6⟩
theorem tw_wsI {t : Nat} (h : t < 178) : ∀ w ∈ tw_ws t, w ∈ tw_gt := fun w hw => by
  rcases List.mem_cons.mp hw with rfl | hw
  · exact (tw_mS h).1
  · exact hw
theorem tw_invS {mi pc t : Nat} {L T vs : List Value} {h : tw_H} {σ : tw_S} {k : Nat × Nat × List Value × List Value} (hx : tw_inv mi pc L T h t vs = some (.inr (.inr (σ, k)))) : tw_ct T ≤ 8 ∧ tw_rk t < tw_rk mi ∧ (tw_ea vs).length ≤ tw_ml t ∧ σ = (t, 0, tw_en t vs, [], h) ∧ k = (mi, pc + 3, L, T) := by
  unfold tw_inv at hx
  obtain ⟨hg, hx⟩ := tw_gS.mp hx
  simp only [Bool.and_eq_true, decide_eq_true_eq] at hg
  cases hx
  exact ⟨hg.1, hg.2.1, hg.2.2, rfl, rfl⟩
theorem tw_Pc_blind {base b0 L0 : Nat} {cA : Nat → ClassId} {D : va_G} {xs : Nat → Int32} {vs : List Value} {h : tw_H} : FrameBlind (tw_Pc base b0 L0 cA D xs vs h) := fun a U g mk q => ⟨q.1, tw_Rel.moved (s := U) (U := U.calling g mk a) (Vm.Alike.refl U.vm) q.2.1, tw_Wd.same (s := U) (U := U.calling g mk a) rfl q.2.2⟩
theorem tw_npS {y : MethodName} {n : Nat} (h : tw_np y n = true) : (parseMethodDescriptor y.desc).map (fun d => d.parameters.length) = some n := of_decide_eq_true h
section TWC
variable {p : Program} {l : Launch} {e : Env} {R : Room} {s : State} {m : MethodId} {args : Array Value} {below : List Frame} {meth : Method} {c : Code} {Q : State → Prop} {base b0 L0 k0 k1 : Nat} {cA : Nat → ClassId} {D : va_G} {xs : Nat → Int32} {mi pc len : Nat} {L S : List Value} {h h1 : tw_H} {v : Option Value} {H : Heap} {ls : Array Slot} {locs : List Loc} {cells slots mc ms : Nat}
theorem tw_after {rest st0 : List Value} {a : Array Value} (hr : va_Run p l e R s m args below meth c H locs cells slots mc ms (F0 m pc ls st0) (rest.map (tw_v base b0)) (tw_Qc base b0 L0 cA D xs v h1 a) (fun q => base ≤ q)) (K : tw_K p l e R s m args below meth c Q base b0 L0 k0 k1 cA D xs mi (pc + 3) L (v.toList ++ rest) h1) (hL : tw_LR base b0 ls (tw_ml mi) L) (hlo : ∀ q ∈ locs, base ≤ q.base) (hc : cells + mc + k0 = h1.1) (hs : slots + ms + k1 = h1.2.1) : W p l e R s m args below meth c H locs cells slots Q (F0 m pc ls st0) := by
  intro T hT X
  obtain ⟨v', st0', t, T', Lc, h0, X', hLc, e1, e2, ⟨hv, hRel⟩, st⟩ := hr T hT X
  have hv : v' = v.map (tw_v base b0) := by
    injection hv
  subst hv
  obtain ⟨t2, a1, b1⟩ := K T'.heap ls (locs ++ Lc) (cells + mc) (slots + ms) (by rw [e1]; exact hRel.moved (by rw [← e2]; exact X'.warmed.alike.symm)) hL (fun q hq => by
    rcases List.mem_append.mp hq with z | z
    · exact hlo q z
    · exact hLc q z) hc hs T' rfl X'
  refine ⟨t2, st t2 ?_, b1⟩
  have hst : (v.map (tw_v base b0)).toList ++ rest.map (tw_v base b0) = (v.toList ++ rest).map (tw_v base b0) := by cases v <;> simp
  rw [hst]
  exact a1
theorem tw_recv (Wd : tw_Wd cA D s) (hR : tw_Rel base b0 L0 cA D xs h s H) {a c2 : Nat} {fs : List Value} (ha : a ≠ 0) (hc : h.2.2 a = some (.inr (.inr (c2, fs)))) : c2 < 12 ∧ ClassAt s (tw_R c2) (D.1 c2) ∧ ∃ cellB : Cell, H[tw_ad base b0 a]? = some cellB ∧ cellB.vm.isStatics = false ∧ s.vm.findClass (tw_R c2) = some cellB.cls := by
  obtain ⟨⟨r', hr', cellV, g1, g2, g3, -⟩, -⟩ := hR.at ha hc
  obtain ⟨hc12, rfl⟩ := tw_clt hr'
  have hcls := (Wd.1.1 c2 _ hr').2
  exact ⟨hc12, hcls, cellV, g1, by rw [g3]; rfl, by rw [g2]; exact hcls.1⟩
theorem tw_q_static {i : Nat} (C : tw_Cx p s m args meth c mi) (Wd : tw_Wd cA D s) (hf : tw_rk mi ≤ R.frames ∧ 36 * tw_rk mi ≤ R.locals) (hm : ∀ t, t < 178 → tw_rk t < tw_rk mi → tw_M l base b0 L0 cA D xs t) {σ : tw_S} {k : Nat × Nat × List Value × List Value} (hrun : ∃ F, tw_run F σ = some (v, h1)) (hmo : h.1 ≤ h1.1 ∧ h.2.1 ≤ h1.2.1) (hcb : h1.1 ≤ R.cells + k0) (hsb : h1.2.1 ≤ R.slots + k1) (K : tw_K p l e R s m args below meth c Q base b0 L0 k0 k1 cA D xs k.1 k.2.1 k.2.2.1 (v.toList ++ k.2.2.2) h1) (hd : decode (tw_c mi) pc = .ok (.invokestatic i, len)) (hx : tw_do mi pc L S h len (.invokestatic i) = some (.inr (.inr (σ, k)))) : tw_K p l e R s m args below meth c Q base b0 L0 k0 k1 cA D xs mi pc L S h := by
  obtain ⟨hX, hB, hM, hrt, hown, hlk, hnm, hts⟩ := C
  simp only [tw_do] at hx
  replace hx := tw_gS.mp hx
  obtain ⟨hl, hx⟩ := hx
  obtain rfl := eq_of_beq hl
  replace hx := Option.bind_eq_some_iff.mp hx
  obtain ⟨q, hce, hx⟩ := hx
  obtain ⟨hok, hoi⟩ := tw_cok hce
  obtain ⟨⟨o, i'⟩, kd, n, ts, ps, tp, x0, ow⟩ := q
  cases hoi
  simp only [tw_cc] at hok
  dsimp only at hx
  split at hx
  · simp only [Bool.and_eq_true] at hok
    have htd : (ts.headD (0, 0)).2 < 178 := by
      have := hok.1
      simp only [tw_lt, List.all_eq_true, decide_eq_true_eq] at this
      cases ts with
      | nil => decide
      | cons z zs => exact this z List.mem_cons_self
    replace hx := tw_gS.mp hx
    obtain ⟨hn, hx⟩ := hx
    have hn := of_decide_eq_true hn
    change tw_inv mi pc L _ h (ts.headD (0, 0)).2 _ = _ at hx
    obtain ⟨i1, i2, i3, i4, i5⟩ := tw_invS hx
    subst i4; subst i5
    have ht := htd
    have hM' := hm _ ht i2 _ _ _ _ hrun i3
    obtain ⟨m1, m2, m3, m4, m5⟩ := tw_mS ht
    have hR2 : (tw_rm _ (h1.1 - h.1) (h1.2.1 - h.2.1)).frames + 1 ≤ R.frames ∧ 8 + (tw_ml _ + 11) + (tw_rm _ (h1.1 - h.1) (h1.2.1 - h.2.1)).locals ≤ R.locals := ⟨(by show tw_rk _ + 1 ≤ R.frames; omega : tw_rk (ts.headD (0, 0)).2 + 1 ≤ R.frames), (by omega : 8 + (tw_ml (ts.headD (0, 0)).2 + 11) + 36 * tw_rk (ts.headD (0, 0)).2 ≤ R.locals)⟩
    intro H ls locs cells slots hR hL hlo hc hs
    have hAs : ((S.take n).reverse.map (tw_v base b0)).length = n := by simp; omega
    have hst : S.map (tw_v base b0) = ((S.take n).reverse.map (tw_v base b0)).reverse ++ (S.drop n).map (tw_v base b0) := by
      rw [← List.map_reverse, List.reverse_reverse, ← List.map_append, List.take_append_drop]
    exact tw_after (va_runS (As := (S.take n).reverse.map (tw_v base b0)) (rest := (S.drop n).map (tw_v base b0)) (n := n) ⟨hX, hB, hM, hown, hts⟩ hM' ⟨callB_of n hts (tw_gI (tw_wsI ht)) rfl rfl rfl (hts _ (tw_gt_of (tw_is.mem hok.2.1.2) rfl)) (hts _ (tw_gt_of (tw_is.mem hok.2.1.1.1) rfl)) ⟨m4.1, m4.2, tw_npS hok.2.2⟩ hR2, hts _ (tw_gt_of (tw_is.mem hok.2.1.1.2) rfl)⟩ ⟨tw_Pc_blind, fun U hU hW => ⟨rfl, by rw [hU]; exact hR.moved hW.alike, Wd.warm hW⟩⟩ rfl hAs hL.1 hst (lv_room (by rw [tw_ct_v]; exact i1)) hd ⟨by omega, by omega⟩) K hL hlo (by omega) (by omega)
  · simp only [Bool.and_eq_true] at hok
    have htd : (ts.headD (0, 0)).2 < 178 := by
      have := hok.1
      simp only [tw_lt, List.all_eq_true, decide_eq_true_eq] at this
      cases ts with
      | nil => decide
      | cons z zs => exact this z List.mem_cons_self
    replace hx := tw_gS.mp hx
    obtain ⟨hn, hx⟩ := hx
    have hn := of_decide_eq_true hn
    change tw_inv mi pc L _ h (ts.headD (0, 0)).2 _ = _ at hx
    obtain ⟨i1, i2, i3, i4, i5⟩ := tw_invS hx
    subst i4; subst i5
    have ht := htd
    have hM' := hm _ ht i2 _ _ _ _ hrun i3
    obtain ⟨m1, m2, m3, m4, m5⟩ := tw_mS ht
    have hR2 : (tw_rm _ (h1.1 - h.1) (h1.2.1 - h.2.1)).frames + 1 ≤ R.frames ∧ 8 + (tw_ml _ + 11) + (tw_rm _ (h1.1 - h.1) (h1.2.1 - h.2.1)).locals ≤ R.locals := ⟨(by show tw_rk _ + 1 ≤ R.frames; omega : tw_rk (ts.headD (0, 0)).2 + 1 ≤ R.frames), (by omega : 8 + (tw_ml (ts.headD (0, 0)).2 + 11) + 36 * tw_rk (ts.headD (0, 0)).2 ≤ R.locals)⟩
    intro H ls locs cells slots hR hL hlo hc hs
    have hAs : ((S.take n).reverse.map (tw_v base b0)).length = n := by simp; omega
    have hst : S.map (tw_v base b0) = ((S.take n).reverse.map (tw_v base b0)).reverse ++ (S.drop n).map (tw_v base b0) := by
      rw [← List.map_reverse, List.reverse_reverse, ← List.map_append, List.take_append_drop]
    exact tw_after (va_runSN (As := (S.take n).reverse.map (tw_v base b0)) (rest := (S.drop n).map (tw_v base b0)) (n := n) ⟨hX, hB, hM, hown, hts⟩ hM' ⟨va_cnB n hts (tw_gI (tw_wsI ht)) rfl rfl rfl (Wd.2.2.2 _ (tw_is.mem hok.2.1.1.1) rfl) (hts _ (tw_gt_of (tw_is.mem hok.2.1.2) rfl)) ⟨m4.1, m4.2, tw_npS hok.2.2⟩ hR2, hts _ (tw_gt_of (tw_is.mem hok.2.1.1.2) rfl), trivial⟩ ⟨tw_Pc_blind, fun U hU hW => ⟨rfl, by rw [hU]; exact hR.moved hW.alike, Wd.warm hW⟩⟩ rfl hAs hL.1 hst (lv_room (by rw [tw_ct_v]; exact i1)) hd ⟨by omega, by omega⟩) K hL hlo (by omega) (by omega)
  · replace hx := Option.bind_eq_some_iff.mp hx
    obtain ⟨y, -, hx⟩ := hx
    replace hx := Option.bind_eq_some_iff.mp hx
    obtain ⟨x, -, hx⟩ := hx
    exact absurd (tw_gS.mp hx).2 (fun z => by cases z)
  · replace hx := Option.bind_eq_some_iff.mp hx
    obtain ⟨y, -, hx⟩ := hx
    replace hx := Option.bind_eq_some_iff.mp hx
    obtain ⟨x, -, hx⟩ := hx
    exact absurd (tw_gS.mp hx).2 (fun z => by cases z)
  · replace hx := Option.bind_eq_some_iff.mp hx
    obtain ⟨y1, -, hx⟩ := hx
    replace hx := Option.bind_eq_some_iff.mp hx
    obtain ⟨y2, -, hx⟩ := hx
    replace hx := Option.bind_eq_some_iff.mp hx
    obtain ⟨y3, -, hx⟩ := hx
    replace hx := Option.bind_eq_some_iff.mp hx
    obtain ⟨y4, -, hx⟩ := hx
    replace hx := Option.bind_eq_some_iff.mp hx
    obtain ⟨y5, -, hx⟩ := hx
    replace hx := (tw_gS.mp hx).2
    split at hx
    · exact absurd (tw_gS.mp hx).2 (fun z => by cases z)
    · cases hx
  · cases hx
theorem tw_q_special {i : Nat} (C : tw_Cx p s m args meth c mi) (Wd : tw_Wd cA D s) (hf : tw_rk mi ≤ R.frames ∧ 36 * tw_rk mi ≤ R.locals) (hm : ∀ t, t < 178 → tw_rk t < tw_rk mi → tw_M l base b0 L0 cA D xs t) {σ : tw_S} {k : Nat × Nat × List Value × List Value} (hrun : ∃ F, tw_run F σ = some (v, h1)) (hmo : h.1 ≤ h1.1 ∧ h.2.1 ≤ h1.2.1) (hcb : h1.1 ≤ R.cells + k0) (hsb : h1.2.1 ≤ R.slots + k1) (K : tw_K p l e R s m args below meth c Q base b0 L0 k0 k1 cA D xs k.1 k.2.1 k.2.2.1 (v.toList ++ k.2.2.2) h1) (hd : decode (tw_c mi) pc = .ok (.invokespecial i, len)) (hx : tw_do mi pc L S h len (.invokespecial i) = some (.inr (.inr (σ, k)))) : tw_K p l e R s m args below meth c Q base b0 L0 k0 k1 cA D xs mi pc L S h := by
  obtain ⟨hX, hB, hM, hrt, hown, hlk, hnm, hts⟩ := C
  simp only [tw_do] at hx
  replace hx := tw_gS.mp hx
  obtain ⟨hl, hx⟩ := hx
  obtain rfl := eq_of_beq hl
  replace hx := Option.bind_eq_some_iff.mp hx
  obtain ⟨q, hce, hx⟩ := hx
  obtain ⟨hok, hoi⟩ := tw_cok hce
  obtain ⟨⟨o, i'⟩, kd, n, ts, ps, tp, x0, ow⟩ := q
  cases hoi
  simp only [tw_cc] at hok
  dsimp only at hx
  replace hx := Option.bind_eq_some_iff.mp hx
  obtain ⟨⟨a, T_a⟩, hq, hx⟩ := hx
  have hS := tw_pRS hq
  dsimp only at hS hx
  have hn : n < S.length := by
    have := congrArg List.length hS
    simp at this
    omega
  have hAs : ((S.take n).reverse.map (tw_v base b0)).length = n := by simp; omega
  have hst : S.map (tw_v base b0) = ((S.take n).reverse.map (tw_v base b0)).reverse ++ .ref (tw_ad base b0 a) :: T_a.map (tw_v base b0) := by
    have e1 : S = S.take n ++ .ref a :: T_a := by rw [← hS, List.take_append_drop]
    rw [← List.map_reverse, List.reverse_reverse]
    conv => lhs; rw [e1]
    rw [List.map_append]
    rfl
  replace hx := tw_gS.mp hx
  obtain ⟨hz, hx⟩ := hx
  have hz := of_decide_eq_true hz
  split at hx
  · simp only [Bool.and_eq_true, decide_eq_true_eq] at hok
    have htd : (ts.headD (0, 0)).2 < 178 := by
      have := hok.1
      simp only [tw_lt, List.all_eq_true, decide_eq_true_eq] at this
      cases ts with
      | nil => decide
      | cons z zs => exact this z List.mem_cons_self
    change tw_inv mi pc L _ h (ts.headD (0, 0)).2 _ = _ at hx
    obtain ⟨i1, i2, i3, i4, i5⟩ := tw_invS hx
    subst i4; subst i5
    have ht := htd
    have hM' := hm _ ht i2 _ _ _ _ hrun i3
    obtain ⟨m1, m2, m3, m4, m5⟩ := tw_mS ht
    have hR2 : (tw_rm _ (h1.1 - h.1) (h1.2.1 - h.2.1)).frames + 1 ≤ R.frames ∧ 8 + (tw_ml _ + 11) + (tw_rm _ (h1.1 - h.1) (h1.2.1 - h.2.1)).locals ≤ R.locals := ⟨(by show tw_rk _ + 1 ≤ R.frames; omega : tw_rk (ts.headD (0, 0)).2 + 1 ≤ R.frames), (by omega : 8 + (tw_ml (ts.headD (0, 0)).2 + 11) + 36 * tw_rk (ts.headD (0, 0)).2 ≤ R.locals)⟩
    intro H ls locs cells slots hR hL hlo hc hs
    have hrn : tw_rt (ts.headD (0, 0)).2 = none := hok.2.2
    have hw0 : tw_ws (ts.headD (0, 0)).2 = Cond.code (tw_y (ts.headD (0, 0)).2) (tw_c (ts.headD (0, 0)).2) (tw_ml (ts.headD (0, 0)).2) none :: tw_gt := by rw [tw_ws, hrn]
    exact tw_after (va_runI (As := (S.take n).reverse.map (tw_v base b0)) (b := tw_ad base b0 a) (rest := T_a.map (tw_v base b0)) (n := n) ⟨hX, hB, hM, hown, hts⟩ hM' ⟨callB_of n hts (tw_gI (tw_wsI ht)) hw0 rfl rfl (hts _ (tw_gt_of (tw_is.mem hok.2.1.1.1.2) rfl)) (hts _ (tw_gt_of (tw_is.mem hok.2.1.1.1.1.1) rfl)) ⟨m4.1, m4.2, tw_npS hok.2.1.1.2⟩ hR2, hok.2.1.2, hts _ (tw_gt_of (tw_is.mem hok.2.1.1.1.1.2) rfl)⟩ ⟨tw_Pc_blind, fun U hU hW => ⟨rfl, by rw [hU]; exact hR.moved hW.alike, Wd.warm hW⟩⟩ rfl hAs hL.1 hst (lv_room (by rw [tw_ct_v]; exact i1)) hd ⟨by omega, by omega⟩) K hL hlo (by omega) (by omega)
  · simp only [Bool.and_eq_true, decide_eq_true_eq] at hok
    have htd : (ts.headD (0, 0)).2 < 178 := by
      have := hok.1
      simp only [tw_lt, List.all_eq_true, decide_eq_true_eq] at this
      cases ts with
      | nil => decide
      | cons z zs => exact this z List.mem_cons_self
    change tw_inv mi pc L _ h (ts.headD (0, 0)).2 _ = _ at hx
    obtain ⟨i1, i2, i3, i4, i5⟩ := tw_invS hx
    subst i4; subst i5
    have ht := htd
    have hM' := hm _ ht i2 _ _ _ _ hrun i3
    obtain ⟨m1, m2, m3, m4, m5⟩ := tw_mS ht
    have hR2 : (tw_rm _ (h1.1 - h.1) (h1.2.1 - h.2.1)).frames + 1 ≤ R.frames ∧ 8 + (tw_ml _ + 11) + (tw_rm _ (h1.1 - h.1) (h1.2.1 - h.2.1)).locals ≤ R.locals := ⟨(by show tw_rk _ + 1 ≤ R.frames; omega : tw_rk (ts.headD (0, 0)).2 + 1 ≤ R.frames), (by omega : 8 + (tw_ml (ts.headD (0, 0)).2 + 11) + 36 * tw_rk (ts.headD (0, 0)).2 ≤ R.locals)⟩
    intro H ls locs cells slots hR hL hlo hc hs
    have hrn : tw_rt (ts.headD (0, 0)).2 = none := hok.2.2
    have hw0 : tw_ws (ts.headD (0, 0)).2 = Cond.code (tw_y (ts.headD (0, 0)).2) (tw_c (ts.headD (0, 0)).2) (tw_ml (ts.headD (0, 0)).2) none :: tw_gt := by rw [tw_ws, hrn]
    exact tw_after (va_runIN (As := (S.take n).reverse.map (tw_v base b0)) (b := tw_ad base b0 a) (rest := T_a.map (tw_v base b0)) (n := n) ⟨hX, hB, hM, hown, hts⟩ hM' ⟨va_cnB n hts (tw_gI (tw_wsI ht)) hw0 rfl rfl (Wd.2.2.2 _ (tw_is.mem hok.2.1.1.1.1.1) rfl) (hts _ (tw_gt_of (tw_is.mem hok.2.1.1.1.2) rfl)) ⟨m4.1, m4.2, tw_npS hok.2.1.1.2⟩ hR2, hok.2.1.2, hts _ (tw_gt_of (tw_is.mem hok.2.1.1.1.1.2) rfl)⟩ ⟨tw_Pc_blind, fun U hU hW => ⟨rfl, by rw [hU]; exact hR.moved hW.alike, Wd.warm hW⟩⟩ rfl hAs hL.1 hst (lv_room (by rw [tw_ct_v]; exact i1)) hd ⟨by omega, by omega⟩) K hL hlo (by omega) (by omega)
  · simp only [Bool.and_eq_true, decide_eq_true_eq] at hok
    have htd : (ts.headD (0, 0)).2 < 178 := by
      have := hok.1
      simp only [tw_lt, List.all_eq_true, decide_eq_true_eq] at this
      cases ts with
      | nil => decide
      | cons z zs => exact this z List.mem_cons_self
    split at hx
    · rename_i c2 fs hcell
      replace hx := tw_gS.mp hx
      obtain ⟨-, hx⟩ := hx
      change tw_inv mi pc L _ h (ts.headD (0, 0)).2 _ = _ at hx
      obtain ⟨i1, i2, i3, i4, i5⟩ := tw_invS hx
      subst i4; subst i5
      have ht := htd
      have hM' := hm _ ht i2 _ _ _ _ hrun i3
      obtain ⟨m1, m2, m3, m4, m5⟩ := tw_mS ht
      have hR2 : (tw_rm _ (h1.1 - h.1) (h1.2.1 - h.2.1)).frames + 1 ≤ R.frames ∧ 8 + (tw_ml _ + 11) + (tw_rm _ (h1.1 - h.1) (h1.2.1 - h.2.1)).locals ≤ R.locals := ⟨(by show tw_rk _ + 1 ≤ R.frames; omega : tw_rk (ts.headD (0, 0)).2 + 1 ≤ R.frames), (by omega : 8 + (tw_ml (ts.headD (0, 0)).2 + 11) + 36 * tw_rk (ts.headD (0, 0)).2 ≤ R.locals)⟩
      intro H ls locs cells slots hR hL hlo hc hs
      obtain ⟨-, hat, hrc⟩ := tw_recv Wd hR hz hcell
      exact tw_after (va_runSU (As := (S.take n).reverse.map (tw_v base b0)) (b := tw_ad base b0 a) (rest := T_a.map (tw_v base b0)) (n := n) hat ⟨hX, hB, hM, hown, hts⟩ hM' (va_cwSU n hts (tw_gI (fun w hw => by
        simp only [va_wsSU, List.cons_append, List.nil_append, List.mem_cons] at hw
        rcases hw with rfl | rfl | rfl | rfl | rfl | hw
        · exact tw_gt_of (tw_is.mem hok.2.1.1.1.1.1.1) rfl
        · exact tw_gt_of (tw_is.mem hok.2.1.1.1.1.1.2) rfl
        · exact tw_gt_of (tw_is.mem hok.2.1.1.1.1.2) rfl
        · exact tw_gt_of (tw_is.mem hok.2.1.1.1.2) rfl
        · exact tw_gt_of (tw_is.mem hok.2.1.1.2) rfl
        · exact tw_wsI ht w hw)) rfl rfl rfl ⟨hok.2.2, tw_npS hok.2.1.2⟩ hR2) ⟨tw_Pc_blind, hrc, fun U hU hW => ⟨rfl, by rw [hU]; exact hR.moved hW.alike, Wd.warm hW⟩⟩ rfl hAs hL.1 hst (lv_room (by rw [tw_ct_v]; exact i1)) hd ⟨by omega, by omega⟩) K hL hlo (by omega) (by omega)
    · cases hx
  · exact absurd (tw_gS.mp hx).2 (fun z => by cases z)
  · cases hx
theorem tw_q_virtual {i : Nat} (C : tw_Cx p s m args meth c mi) (Wd : tw_Wd cA D s) (hf : tw_rk mi ≤ R.frames ∧ 36 * tw_rk mi ≤ R.locals) (hm : ∀ t, t < 178 → tw_rk t < tw_rk mi → tw_M l base b0 L0 cA D xs t) {σ : tw_S} {k : Nat × Nat × List Value × List Value} (hrun : ∃ F, tw_run F σ = some (v, h1)) (hmo : h.1 ≤ h1.1 ∧ h.2.1 ≤ h1.2.1) (hcb : h1.1 ≤ R.cells + k0) (hsb : h1.2.1 ≤ R.slots + k1) (K : tw_K p l e R s m args below meth c Q base b0 L0 k0 k1 cA D xs k.1 k.2.1 k.2.2.1 (v.toList ++ k.2.2.2) h1) (hd : decode (tw_c mi) pc = .ok (.invokevirtual i, len)) (hx : tw_do mi pc L S h len (.invokevirtual i) = some (.inr (.inr (σ, k)))) : tw_K p l e R s m args below meth c Q base b0 L0 k0 k1 cA D xs mi pc L S h := by
  obtain ⟨hX, hB, hM, hrt, hown, hlk, hnm, hts⟩ := C
  simp only [tw_do] at hx
  replace hx := tw_gS.mp hx
  obtain ⟨hl, hx⟩ := hx
  obtain rfl := eq_of_beq hl
  replace hx := Option.bind_eq_some_iff.mp hx
  obtain ⟨q, hce, hx⟩ := hx
  obtain ⟨hok, hoi⟩ := tw_cok hce
  obtain ⟨⟨o, i'⟩, kd, n, ts, ps, tp, x0, ow⟩ := q
  cases hoi
  simp only [tw_cc] at hok
  dsimp only at hx
  replace hx := Option.bind_eq_some_iff.mp hx
  obtain ⟨⟨a, T_a⟩, hq, hx⟩ := hx
  have hS := tw_pRS hq
  dsimp only at hS hx
  have hn : n < S.length := by
    have := congrArg List.length hS
    simp at this
    omega
  have hAs : ((S.take n).reverse.map (tw_v base b0)).length = n := by simp; omega
  have hst : S.map (tw_v base b0) = ((S.take n).reverse.map (tw_v base b0)).reverse ++ .ref (tw_ad base b0 a) :: T_a.map (tw_v base b0) := by
    have e1 : S = S.take n ++ .ref a :: T_a := by rw [← hS, List.take_append_drop]
    rw [← List.map_reverse, List.reverse_reverse]
    conv => lhs; rw [e1]
    rw [List.map_append]
    rfl
  replace hx := tw_gS.mp hx
  obtain ⟨hz, hx⟩ := hx
  simp only [Bool.and_eq_true, Bool.or_eq_true, decide_eq_true_eq] at hz
  obtain ⟨hz, hkd⟩ := hz
  split at hx
  · rename_i c2 fs hcell
    replace hx := Option.bind_eq_some_iff.mp hx
    obtain ⟨t, hlu, hx⟩ := hx
    have hmem : (c2, t) ∈ ts := by
      have : ∀ (ys : List (Nat × Nat)), ys.lookup c2 = some t → (c2, t) ∈ ys := by
        intro ys
        induction ys with
        | nil => intro q; cases q
        | cons z zs ih =>
          obtain ⟨z1, z2⟩ := z
          intro q
          rw [List.lookup_cons] at q
          by_cases hcz : c2 == z1
          · rw [hcz] at q
            cases q
            rw [eq_of_beq hcz]
            exact List.mem_cons_self
          · have hcz : (c2 == z1) = false := by simpa using hcz
            rw [hcz] at q
            exact List.mem_cons_of_mem _ (ih q)
      exact this ts hlu
    have htd : t < 178 := by
      simp only [Bool.and_eq_true] at hok
      have := hok.1
      simp only [tw_lt, List.all_eq_true, decide_eq_true_eq] at this
      exact this _ hmem
    obtain ⟨i1, i2, i3, i4, i5⟩ := tw_invS hx
    subst i4; subst i5
    have ht := htd
    have hM' := hm _ ht i2 _ _ _ _ hrun i3
    obtain ⟨m1, m2, m3, m4, m5⟩ := tw_mS ht
    have hR2 : (tw_rm _ (h1.1 - h.1) (h1.2.1 - h.2.1)).frames + 1 ≤ R.frames ∧ 8 + (tw_ml _ + 11) + (tw_rm _ (h1.1 - h.1) (h1.2.1 - h.2.1)).locals ≤ R.locals := ⟨(by show tw_rk _ + 1 ≤ R.frames; omega : tw_rk t + 1 ≤ R.frames), (by omega : 8 + (tw_ml t + 11) + 36 * tw_rk t ≤ R.locals)⟩
    intro H ls locs cells slots hR hL hlo hc hs
    obtain ⟨-, hat, hrc⟩ := tw_recv Wd hR hz hcell
    rcases hkd with rfl | rfl
    · simp only [Bool.and_eq_true, List.all_eq_true, decide_eq_true_eq] at hok
      obtain ⟨⟨q1, q2⟩, q3⟩ := hok.2.2 _ hmem
      have q2 : t = tw_hd ((tw_ow mi, i), 5, n, ts, ps, tp, x0, ow) := q2
      have q3 : tw_R c2 = (tw_y t).cls := q3
      rw [← q2] at hok
      rw [q3] at hrc
      exact tw_after (va_runV (C := (tw_y t).cls) (As := (S.take n).reverse.map (tw_v base b0)) (b := tw_ad base b0 a) (rest := T_a.map (tw_v base b0)) (n := n) ⟨hX, hB, hM, hown, hts⟩ hM' ⟨callB_of n hts (tw_gI (tw_wsI ht)) rfl rfl rfl (hts _ (tw_gt_of (tw_is.mem hok.2.1.1.2) rfl)) (hts _ (tw_gt_of (tw_is.mem hok.2.1.1.1.1.1) rfl)) ⟨m4.1, m4.2, tw_npS hok.2.1.2⟩ hR2, hts _ (tw_gt_of (tw_is.mem hok.2.1.1.1.1.2) rfl), hts _ (tw_gt_of (tw_is.mem hok.2.1.1.1.2) rfl)⟩ ⟨tw_Pc_blind, hrc, fun U hU hW => ⟨rfl, by rw [hU]; exact hR.moved hW.alike, Wd.warm hW⟩⟩ rfl hAs hL.1 hst (lv_room (by rw [tw_ct_v]; exact i1)) hd ⟨by omega, by omega⟩) K hL hlo (by omega) (by omega)
    · simp only [Bool.and_eq_true, List.all_eq_true, decide_eq_true_eq] at hok
      obtain ⟨hlt0, ⟨⟨⟨⟨⟨⟨⟨⟨w1, w2⟩, w3⟩, w4⟩, w5⟩, w6⟩, w7⟩, w8⟩, w9⟩, w10⟩ := hok
      obtain ⟨j, hj⟩ := List.getElem?_of_mem hmem
      have hjl := (List.getElem?_eq_some_iff.mp hj).1
      have hzip : ((c2, t), tp[j]'(by omega)) ∈ ts.zip tp := by
        refine List.mem_of_getElem? (i := j) ?_
        rw [List.getElem?_zip_eq_some]
        exact ⟨hj, List.getElem?_eq_getElem _⟩
      obtain ⟨⟨⟨z1, z2⟩, z3⟩, z4⟩ := w10 _ hzip
      have hc0 := (tw_mS w4).1
      rw [w5] at hc0
      exact tw_after (va_runU (C := tw_R c2) (owner := ow) (x := x0) (As := (S.take n).reverse.map (tw_v base b0)) (b := tw_ad base b0 a) (rest := T_a.map (tw_v base b0)) (n := n) ⟨hX, hB, hM, hown, hts⟩ hM' (va_cwO n hts (tw_gI (fun w hw => by
        simp only [va_wsO, List.cons_append, List.nil_append, List.mem_cons] at hw
        rcases hw with rfl | rfl | rfl | rfl | rfl | rfl | hw
        · exact tw_gt_of (tw_is.mem w1) rfl
        · exact tw_gt_of (tw_is.mem w2) rfl
        · exact tw_gt_of (tw_is.mem w3) rfl
        · exact tw_gt_of (tw_is.mem z2) rfl
        · exact tw_gt_of (tw_is.mem z3) rfl
        · exact tw_gt_of (tw_is.mem z4) rfl
        · exact tw_wsI ht w hw)) rfl rfl rfl hc0 ⟨w7, w8, tw_npS w6⟩ hR2) ⟨tw_Pc_blind, hrc, fun U hU hW => ⟨rfl, by rw [hU]; exact hR.moved hW.alike, Wd.warm hW⟩⟩ rfl hAs hL.1 hst (lv_room (by rw [tw_ct_v]; exact i1)) hd ⟨by omega, by omega⟩) K hL hlo (by omega) (by omega)
  · cases hx
end TWC
