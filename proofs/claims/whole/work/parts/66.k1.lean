/-! what no run of the small machine changes: the script; which kind an object is; and what kind of value a method answers -/
def Kp (h h' : tw_H) : Prop := 0 < h.1 → h'.2.2 0 = h.2.2 0 ∧ h.1 ≤ h'.1 ∧ ∀ a c fs, a < h.1 → h.2.2 a = some (.inr (.inr (c, fs))) → ∃ fs', h'.2.2 a = some (.inr (.inr (c, fs')))
theorem Kp.refl (h : tw_H) : Kp h h := fun _ => ⟨rfl, Nat.le_refl _, fun _ _ fs _ e => ⟨fs, e⟩⟩
theorem Kp.trans {a b c : tw_H} (x : Kp a b) (y : Kp b c) : Kp a c := fun z => by
  obtain ⟨x1, x2, x3⟩ := x z
  obtain ⟨y1, y2, y3⟩ := y (by omega)
  refine ⟨y1.trans x1, by omega, fun p k fs hp e => ?_⟩
  obtain ⟨fs', e'⟩ := x3 p k fs hp e
  exact y3 p k fs' (by omega) e'
theorem Kp.setI {h : tw_H} {a : Nat} {e : tw_C} (h0 : a ≠ 0) (hc : ∀ c fs, h.2.2 a ≠ some (.inr (.inr (c, fs)))) : Kp h (tw_set h a e) := fun _ => by
  refine ⟨by rw [tw_sg, if_neg (Ne.symm h0)], by rw [tw_sg1]; exact Nat.le_refl _, fun p k fs _ e' => ⟨fs, ?_⟩⟩
  rw [tw_sg, if_neg (fun z => hc k fs (by rw [← z]; exact e'))]
  exact e'
theorem Kp.setO {h : tw_H} {a c : Nat} {fs fs' : List Value} (h0 : a ≠ 0) (hc : h.2.2 a = some (.inr (.inr (c, fs)))) : Kp h (tw_set h a (.inr (.inr (c, fs')))) := fun _ => by
  refine ⟨by rw [tw_sg, if_neg (Ne.symm h0)], by rw [tw_sg1]; exact Nat.le_refl _, fun p k ks _ e' => ?_⟩
  by_cases z : p = a
  · rw [z, hc] at e'
    cases e'
    exact ⟨fs', by rw [tw_sg, if_pos z]⟩
  · exact ⟨ks, by rw [tw_sg, if_neg z]; exact e'⟩
theorem Kp.new {h : tw_H} {e : tw_C} {n : Nat} : Kp h (tw_new h e n) := fun z => by
  refine ⟨by rw [tw_ng, if_neg (by omega)], by rw [tw_ng1]; omega, fun p k ks hp e' => ⟨ks, ?_⟩⟩
  rw [tw_ng, if_neg (by omega)]
  exact e'
def Rt (mi : Nat) (v : Option Value) : Prop := (tw_rt mi = some .int → ∃ x, v = some (.int x)) ∧ (tw_rt mi = some .long → ∃ x, v = some (.long x))
def Po (mi : Nat) (h : tw_H) (o : Option tw_O) : Prop := ∀ r, o = some r → (∀ q, r = .inl q → Kp h q.2 ∧ Rt mi q.1) ∧ (∀ σ, r = .inr (.inl σ) → σ.1 = mi ∧ Kp h σ.2.2.2.2) ∧ (∀ σ k, r = .inr (.inr (σ, k)) → k.1 = mi ∧ Kp h σ.2.2.2.2)
section PO
variable {mi : Nat} {h : tw_H}
theorem Po.none : Po mi h none := fun r e => by cases e
theorem Po.nx {pc : Nat} {L S : List Value} {h' : tw_H} (k : Kp h h') : Po mi h (tw_nx mi pc L S h') := fun r e => by
  cases e
  exact ⟨fun q e => by (cases e), fun σ e => by cases e; exact ⟨rfl, k⟩, fun σ k e => by (cases e)⟩
theorem Po.g {b : Bool} {o : Option tw_O} (f : b = true → Po mi h o) : Po mi h (tw_g b o) := fun r e => by
  unfold tw_g at e
  by_cases z : b = true
  · rw [if_pos z] at e; exact f z r e
  · rw [if_neg z] at e; cases e
theorem Po.bind {α : Type} {x : Option α} {f : α → Option tw_O} (k : ∀ a, Po mi h (f a)) : Po mi h (x.bind f) := fun r e => by
  obtain ⟨a, _, e2⟩ := Option.bind_eq_some_iff.mp e
  exact k a r e2
theorem Po.to {pc : Nat} {off : Int} {f : Nat → Option tw_O} (k : ∀ t, Po mi h (f t)) : Po mi h (tw_to pc off f) := Po.g fun _ => k _
theorem Po.ite {p : Prop} {d : Decidable p} {a b : Option tw_O} (x : Po mi h a) (y : Po mi h b) : Po mi h (@ite _ p d a b) := by
  by_cases z : p
  · rw [if_pos z]; exact x
  · rw [if_neg z]; exact y
theorem Po.inv {pc : Nat} {L rest : List Value} {t : Nat} {vs : List Value} : Po mi h (tw_inv mi pc L rest h t vs) := Po.g fun _ r e => by
  cases e
  exact ⟨fun q e => by (cases e), fun σ e => by (cases e), fun σ k e => by cases e; exact ⟨rfl, Kp.refl _⟩⟩
theorem Po.ret {v : Option Value} (k : Rt mi v) : Po mi h (some (.inl (v, h))) := fun r e => by
  cases e
  exact ⟨fun q e => by cases e; exact ⟨Kp.refl _, k⟩, fun σ e => by (cases e), fun σ k e => by (cases e)⟩
theorem Rt.int {x : Int32} (hb : tw_nb mi x = true) : Rt mi (some (.int x)) := by
  refine ⟨fun _ => ⟨x, rfl⟩, fun e => ?_⟩
  unfold tw_nb at hb
  rw [e] at hb
  cases hb
theorem Rt.lng {x : Int64} (hb : tw_isL mi = true) : Rt mi (some (.long x)) := by
  refine ⟨fun e => ?_, fun _ => ⟨x, rfl⟩⟩
  unfold tw_isL at hb
  rw [e] at hb
  cases hb
theorem Rt.obj {v : Value} (hb : tw_isA mi = true) : Rt mi (some v) := by
  refine ⟨fun e => ?_, fun e => ?_⟩
  · unfold tw_isA at hb
    rw [e] at hb
    cases hb
  · unfold tw_isA at hb
    rw [e] at hb
    cases hb
theorem Rt.non (hb : tw_isV mi = true) : Rt mi none := by
  refine ⟨fun e => ?_, fun e => ?_⟩
  · unfold tw_isV at hb
    rw [e] at hb
    cases hb
  · unfold tw_isV at hb
    rw [e] at hb
    cases hb
theorem tw_do_k (pc : Nat) (L S : List Value) (len : Nat) (ins : Instr) : Po mi h (tw_do mi pc L S h len ins) := by
  cases ins with
  | putfield i =>
    refine Po.g fun _ => Po.bind fun q => Po.bind fun v => Po.bind fun a => Po.g fun h0 => ?_
    split
    · next c fs heq => exact Po.g fun _ => Po.nx (Kp.setO (of_decide_eq_true h0) heq)
    · exact Po.none
  | iastore =>
    refine Po.g fun _ => Po.bind fun x => Po.bind fun i => Po.bind fun a => Po.g fun h0 => ?_
    split
    · next n f heq => exact Po.g fun _ => Po.nx (Kp.setI (of_decide_eq_true h0) (fun c fs z => by rw [heq] at z; cases z))
    · exact Po.none
  | aastore =>
    refine Po.g fun _ => Po.bind fun v => Po.bind fun i => Po.bind fun a => Po.g fun h0 => ?_
    have h1 := of_decide_eq_true ((Bool.and_eq_true _ _).mp h0).1
    split
    · next t n f heq => exact Po.g fun _ => Po.bind fun o => Po.nx (Kp.setI h1 (fun c fs z => by rw [heq] at z; cases z))
    · exact Po.none
  | new i => exact Po.g fun _ => Po.bind fun q => Po.nx Kp.new
  | anewarray i => exact Po.g fun _ => Po.bind fun q => Po.bind fun n => Po.g fun _ => Po.nx Kp.new
  | newarray t =>
    cases t with
    | int => exact Po.g fun _ => Po.bind fun n => Po.g fun _ => Po.nx Kp.new
    | _ => exact Po.none
  | invokestatic i =>
    refine Po.g fun _ => Po.bind fun q => ?_
    split
    · exact Po.g fun _ => Po.inv
    · exact Po.g fun _ => Po.inv
    · exact Po.bind fun y => Po.bind fun x => Po.g fun _ => Po.nx (Kp.refl _)
    · exact Po.bind fun y => Po.bind fun x => Po.g fun _ => Po.nx (Kp.refl _)
    · refine Po.bind fun n => Po.bind fun dp => Po.bind fun b => Po.bind fun sp => Po.bind fun a => Po.g fun h0 => ?_
      have h1 := of_decide_eq_true ((Bool.and_eq_true _ _).mp ((Bool.and_eq_true _ _).mp h0).2).1
      split
      · next n0 f n1 g heq1 heq2 => exact Po.g fun _ => Po.nx (Kp.setI h1 (fun c fs z => by rw [heq2] at z; cases z))
      · exact Po.none
    · exact Po.none
  | invokespecial i =>
    refine Po.g fun _ => Po.bind fun q => Po.bind fun a => Po.g fun _ => ?_
    split
    · exact Po.inv
    · exact Po.inv
    · split
      · exact Po.g fun _ => Po.inv
      · exact Po.none
    · exact Po.g fun _ => Po.nx (Kp.refl _)
    · exact Po.none
  | invokevirtual i =>
    refine Po.g fun _ => Po.bind fun q => Po.bind fun a => Po.g fun _ => ?_
    split
    · exact Po.bind fun t => Po.inv
    · exact Po.none
  | ireturn =>
    refine Po.g fun _ => ?_
    split
    · exact Po.g fun hb => Po.ret (Rt.int hb)
    · exact Po.none
  | lreturn =>
    refine Po.g fun _ => ?_
    split
    · exact Po.g fun hb => Po.ret (Rt.lng hb)
    · exact Po.none
  | areturn =>
    refine Po.g fun _ => ?_
    split
    · exact Po.bind fun v => Po.g fun hb => Po.ret (Rt.obj hb)
    · exact Po.none
  | return_ =>
    refine Po.g fun _ => ?_
    split
    · exact Po.g fun hb => Po.ret (Rt.non hb)
    · exact Po.none
  | getfield i =>
    refine Po.g fun _ => Po.bind fun q => Po.bind fun a => Po.g fun _ => ?_
    split
    · exact Po.g fun _ => Po.bind fun v => Po.nx (Kp.refl _)
    · exact Po.none
  | iaload =>
    refine Po.g fun _ => Po.bind fun i => Po.bind fun a => ?_
    split
    · exact Po.g fun _ => Po.nx (Kp.refl _)
    · exact Po.none
  | aaload =>
    refine Po.g fun _ => Po.bind fun i => Po.bind fun a => Po.g fun _ => ?_
    split
    · exact Po.g fun _ => Po.nx (Kp.refl _)
    · exact Po.none
  | arraylength =>
    refine Po.g fun _ => Po.bind fun a => ?_
    split
    · exact Po.nx (Kp.refl _)
    · exact Po.g fun _ => Po.nx (Kp.refl _)
    · exact Po.none
  | tableswitch d lo hi offs => exact Po.bind fun x => Po.ite (Po.to fun t => Po.nx (Kp.refl _)) (Po.bind fun off => Po.to fun t => Po.nx (Kp.refl _))
  | lookupswitch d ps => exact Po.g fun _ => Po.bind fun x => Po.to fun t => Po.nx (Kp.refl _)
  | ifCond c off => exact Po.g fun _ => Po.bind fun x => Po.to fun t => Po.ite (Po.nx (Kp.refl _)) (Po.nx (Kp.refl _))
  | if_icmp c off => exact Po.g fun _ => Po.bind fun y => Po.bind fun x => Po.to fun t => Po.ite (Po.nx (Kp.refl _)) (Po.nx (Kp.refl _))
  | goto off => exact Po.g fun _ => Po.to fun t => Po.nx (Kp.refl _)
  | ifnull off => exact Po.g fun _ => Po.bind fun x => Po.bind fun v => Po.ite (Po.to fun t => Po.nx (Kp.refl _)) (Po.nx (Kp.refl _))
  | ifnonnull off => exact Po.g fun _ => Po.bind fun x => Po.bind fun v => Po.ite (Po.nx (Kp.refl _)) (Po.to fun t => Po.nx (Kp.refl _))
  | _ => first
    | exact Po.none
    | exact Po.g fun _ => Po.nx (Kp.refl _)
    | exact Po.g fun _ => Po.bind fun _ => Po.nx (Kp.refl _)
    | exact Po.g fun _ => Po.bind fun _ => Po.bind fun _ => Po.nx (Kp.refl _)
    | exact Po.g fun _ => Po.bind fun _ => Po.bind fun _ => Po.bind fun _ => Po.nx (Kp.refl _)
    | exact Po.g fun _ => Po.bind fun _ => Po.g fun _ => Po.nx (Kp.refl _)
    | exact Po.g fun _ => Po.bind fun _ => Po.bind fun _ => Po.g fun _ => Po.nx (Kp.refl _)
end PO
theorem tw_run_k : ∀ (F : Nat) (σ : tw_S) (r : tw_Q), tw_run F σ = some r → Kp σ.2.2.2.2 r.2 ∧ Rt σ.1 r.1
  | 0, σ, r, h => by simp [tw_run] at h
  | F + 1, σ, r, h => by
    have P : Po σ.1 σ.2.2.2.2 (tw_stp σ) := by
      unfold tw_stp
      split
      · exact tw_do_k _ _ _ _ _
      · exact Po.none
    simp only [tw_run] at h
    cases hs : tw_stp σ with
    | none => rw [hs] at h; cases h
    | some o =>
      rw [hs] at h
      have p := P o hs
      rcases o with x | σ' | ⟨σ1, k⟩
      · cases h
        exact p.1 _ rfl
      · obtain ⟨e, k⟩ := p.2.1 σ' rfl
        obtain ⟨a, b⟩ := tw_run_k F σ' r h
        exact ⟨k.trans a, by rw [← e]; exact b⟩
      · obtain ⟨e, kk⟩ := p.2.2 σ1 k rfl
        simp only at h
        obtain ⟨r1, h1, h2⟩ := Option.bind_eq_some_iff.mp h
        obtain ⟨a, _⟩ := tw_run_k F σ1 r1 h1
        obtain ⟨c, d⟩ := tw_run_k F _ r h2
        exact ⟨(kk.trans a).trans c, by rw [← e]; exact d⟩
theorem tw_b_k {mi pc : Nat} {L S : List Value} {h : tw_H} {r : tw_Q} (e : tw_b mi pc L S h = some r) : Kp h r.2 ∧ Rt mi r.1 := by
  obtain ⟨F, hF⟩ := tw_B_iff.mp e
  exact tw_run_k F _ _ hF
section IV
variable {h : tw_H}
theorem Inv.ge (I : Inv h) : 44 ≤ h.1 := by
  obtain ⟨nw, nt, s0, ns, nr, hk, lw, fl, tr, tfx, tfm, sw, sh, sa, f34, f35, r1, r2, r3, ft, fo, kd, wt, sz, ln, sf, g, hX, hS, hM, hR⟩ := id I
  obtain ⟨x44, xX, xS, xR, xK, ⟨oa, ob, xO⟩, ⟨lf, xL⟩, xW, xWK, xT, xTx⟩ := id hX
  obtain ⟨⟨a1, a2, a3, mZ⟩, mR, ⟨hd, mH⟩, ⟨mf, mL⟩, mA⟩ := id hM
  obtain ⟨r8, r6, r0, rs, rW, rT, rN, rF⟩ := id hR
  exact x44
theorem Inv.cox (I : Inv h) : tw_co h 1 = some 10 := by
  obtain ⟨nw, nt, s0, ns, nr, hk, lw, fl, tr, tfx, tfm, sw, sh, sa, f34, f35, r1, r2, r3, ft, fo, kd, wt, sz, ln, sf, g, hX, hS, hM, hR⟩ := id I
  obtain ⟨x44, xX, xS, xR, xK, ⟨oa, ob, xO⟩, ⟨lf, xL⟩, xW, xWK, xT, xTx⟩ := id hX
  obtain ⟨⟨a1, a2, a3, mZ⟩, mR, ⟨hd, mH⟩, ⟨mf, mL⟩, mA⟩ := id hM
  obtain ⟨r8, r6, r0, rs, rW, rT, rN, rF⟩ := id hR
  exact xco xX
theorem Inv.com (I : Inv h) : tw_co h 27 = some 11 := by
  obtain ⟨nw, nt, s0, ns, nr, hk, lw, fl, tr, tfx, tfm, sw, sh, sa, f34, f35, r1, r2, r3, ft, fo, kd, wt, sz, ln, sf, g, hX, hS, hM, hR⟩ := id I
  obtain ⟨x44, xX, xS, xR, xK, ⟨oa, ob, xO⟩, ⟨lf, xL⟩, xW, xWK, xT, xTx⟩ := id hX
  obtain ⟨⟨a1, a2, a3, mZ⟩, mR, ⟨hd, mH⟩, ⟨mf, mL⟩, mA⟩ := id hM
  obtain ⟨r8, r6, r0, rs, rW, rT, rN, rF⟩ := id hR
  exact mco mZ.1
theorem Inv.obm (I : Inv h) : ∃ fs, h.2.2 27 = some (.inr (.inr (11, fs))) := by
  obtain ⟨nw, nt, s0, ns, nr, hk, lw, fl, tr, tfx, tfm, sw, sh, sa, f34, f35, r1, r2, r3, ft, fo, kd, wt, sz, ln, sf, g, hX, hS, hM, hR⟩ := id I
  obtain ⟨x44, xX, xS, xR, xK, ⟨oa, ob, xO⟩, ⟨lf, xL⟩, xW, xWK, xT, xTx⟩ := id hX
  obtain ⟨⟨a1, a2, a3, mZ⟩, mR, ⟨hd, mH⟩, ⟨mf, mL⟩, mA⟩ := id hM
  obtain ⟨r8, r6, r0, rs, rW, rT, rN, rF⟩ := id hR
  exact ⟨_, mZ.1⟩
end IV
/-- a call of both, as the law sees it -/
def Got (h : tw_H) (mx : Nat) (Lx : List Value) (mm : Nat) (Lm : List Value) (v : Value) (h1 h2 : tw_H) : Prop := tw_b mx 0 Lx [] h = some (some v, h1) ∧ tw_b mm 0 Lm [] h1 = some (some v, h2) ∧ h1.2.2 0 = h.2.2 0 ∧ tw_co h1 27 = some 11 ∧ Inv h2 ∧ h2.2.2 0 = h.2.2 0 ∧ h2.1 ≤ h.1 + 10 ∧ h2.2.1 ≤ h.2.1 + 100
theorem two_got {h : tw_H} {mx mm : Nat} {Lx Lm : List Value} (T : Two h mx Lx mm Lm) (I : Inv h) : ∃ v h1 h2, Got h mx Lx mm Lm v h1 h2 ∧ Rt mx (some v) := by
  obtain ⟨v, h1, h2, e1, e2, I2, b1, b2⟩ := T
  have hg := I.ge
  obtain ⟨k1, t1⟩ := tw_b_k e1
  obtain ⟨z1, l1, o1⟩ := k1 (by omega)
  obtain ⟨k2, _⟩ := tw_b_k e2
  obtain ⟨z2, _, _⟩ := k2 (by simp only at l1; omega)
  obtain ⟨fs, hfs⟩ := I.obm
  obtain ⟨fs', hfs'⟩ := o1 27 11 fs (by omega) hfs
  exact ⟨v, h1, h2, ⟨e1, e2, z1, by simp only at hfs'; simp [tw_co, hfs'], I2, z2.trans z1, b1, b2⟩, t1⟩
theorem two_int {h : tw_H} {mx mm : Nat} {Lx Lm : List Value} (T : Two h mx Lx mm Lm) (I : Inv h) (hr : tw_rt mx = some .int) : ∃ v h1 h2, Got h mx Lx mm Lm (.int v) h1 h2 := by
  obtain ⟨v, h1, h2, G, t⟩ := two_got T I
  obtain ⟨x, e⟩ := t.1 hr
  cases e
  exact ⟨x, h1, h2, G⟩
theorem two_lng {h : tw_H} {mx mm : Nat} {Lx Lm : List Value} (T : Two h mx Lx mm Lm) (I : Inv h) (hr : tw_rt mx = some .long) : ∃ v h1 h2, Got h mx Lx mm Lm (.long v) h1 h2 := by
  obtain ⟨v, h1, h2, G, t⟩ := two_got T I
  obtain ⟨x, e⟩ := t.2 hr
  cases e
  exact ⟨x, h1, h2, G⟩
