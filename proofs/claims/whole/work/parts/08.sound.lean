/-! the whole: a run of the small machine is a run of the real one -/
def tw_ir : Instr → Bool
  | .ireturn => true
  | .lreturn => true
  | .areturn => true
  | .return_ => true
  | _ => false
def tw_N0 (ins : Instr) (x : Option tw_O) : Prop := ∀ r, x = some (.inl r) → tw_ir ins = true
section TWN0
variable {ins : Instr}
theorem tw_N00 : tw_N0 ins none := fun o q => by cases q
theorem tw_N0g {b : Bool} {x : Option tw_O} (k : tw_N0 ins x) : tw_N0 ins (tw_g b x) := fun o q => k o (tw_gS.mp q).2
theorem tw_N0b {α : Type} {x : Option α} {f : α → Option tw_O} (k : ∀ a, tw_N0 ins (f a)) : tw_N0 ins (x.bind f) := fun o q => by
  obtain ⟨a, -, q⟩ := Option.bind_eq_some_iff.mp q
  exact k a o q
theorem tw_N0t {pc : Nat} {off : Int} {k : Nat → Option tw_O} (kk : ∀ t, tw_N0 ins (k t)) : tw_N0 ins (tw_to pc off k) := tw_N0g (kk _)
theorem tw_N0n {mi : Nat} {h' : tw_H} {pc : Nat} {L S : List Value} : tw_N0 ins (tw_nx mi pc L S h') := fun o z => by cases z
theorem tw_N0i {mi : Nat} {h : tw_H} {pc t : Nat} {L T vs : List Value} : tw_N0 ins (tw_inv mi pc L T h t vs) := tw_N0g (fun o z => by cases z)
theorem tw_N0r {x : Option tw_O} (q : tw_ir ins = true) : tw_N0 ins x := fun _ _ => q
theorem tw_do_n0 {mi : Nat} {h : tw_H} {pc len : Nat} {L S : List Value} : tw_N0 ins (tw_do mi pc L S h len ins) := by
  unfold tw_do
  split <;>
    repeat' (first | exact tw_N00 | exact tw_N0r rfl | exact tw_N0i | exact tw_N0n | refine tw_N0g ?_ | refine tw_N0b fun _ => ?_ | refine tw_N0t fun _ => ?_ | split)
theorem tw_noret {mi : Nat} {h : tw_H} {pc len : Nat} {L S : List Value} {r : tw_Q} (ins : Instr) (hi : tw_ir ins = false) : ¬ tw_do mi pc L S h len ins = some (.inl r) := fun q => by
  have := tw_do_n0 (ins := ins) r q
  rw [hi] at this
  cases this
end TWN0
theorem tw_inl_eq {mi pc len : Nat} {L S : List Value} {h h1 : tw_H} {ins : Instr} {v : Option Value} (hx : tw_do mi pc L S h len ins = some (.inl (v, h1))) : h1 = h := tw_do_gd (mi := mi) (pc := pc) (len := len) (L := L) (S := S) _ hx
section TWB
variable {p : Program} {l : Launch} {e : Env} {R : Room} {s : State} {m : MethodId} {args : Array Value} {below : List Frame} {meth : Method} {c : Code} {Q : State → Prop} {base b0 L0 k0 k1 : Nat} {cA : Nat → ClassId} {D : va_G} {xs : Nat → Int32} {mi pc len : Nat} {L S : List Value} {h h1 : tw_H} {v : Option Value}
theorem tw_next {σ : tw_S} (C : tw_Cx p s m args meth c mi) (Wd : tw_Wd cA D s) (hf : tw_rk mi ≤ R.frames ∧ 36 * tw_rk mi ≤ R.locals) (hcb : σ.2.2.2.2.1 ≤ R.cells + k0) (hsb : σ.2.2.2.2.2.1 ≤ R.slots + k1) (K : tw_K p l e R s m args below meth c Q base b0 L0 k0 k1 cA D xs σ.1 σ.2.1 σ.2.2.1 σ.2.2.2.1 σ.2.2.2.2) (ins : Instr) (hd : decode (tw_c mi) pc = .ok (ins, len)) (hx : tw_do mi pc L S h len ins = some (.inr (.inl σ))) : tw_K p l e R s m args below meth c Q base b0 L0 k0 k1 cA D xs mi pc L S h := by
  cases ins with
  | iconst n => exact tw_n_iconst C Wd hf hcb hsb K hd hx
  | bipush n => exact tw_n_bipush C Wd hf hcb hsb K hd hx
  | sipush n => exact tw_n_sipush C Wd hf hcb hsb K hd hx
  | lconst n => exact tw_n_lconst C Wd hf hcb hsb K hd hx
  | aconst_null => exact tw_n_anull C Wd hf hcb hsb K hd hx
  | ldc2_w n => exact tw_n_ldc2 C Wd hf hcb hsb K hd hx
  | ldc_w n => exact tw_n_ldcw C Wd hf hcb hsb K hd hx
  | iload_n k => exact tw_n_iload_n C Wd hf hcb hsb K hd hx
  | iload k => exact tw_n_iload C Wd hf hcb hsb K hd hx
  | lload_n k => exact tw_n_lload_n C Wd hf hcb hsb K hd hx
  | lload k => exact tw_n_lload C Wd hf hcb hsb K hd hx
  | aload_n k => exact tw_n_aload_n C Wd hf hcb hsb K hd hx
  | aload k => exact tw_n_aload C Wd hf hcb hsb K hd hx
  | istore_n k => exact tw_n_istore_n C Wd hf hcb hsb K hd hx
  | istore k => exact tw_n_istore C Wd hf hcb hsb K hd hx
  | lstore_n k => exact tw_n_lstore_n C Wd hf hcb hsb K hd hx
  | lstore k => exact tw_n_lstore C Wd hf hcb hsb K hd hx
  | astore_n k => exact tw_n_astore_n C Wd hf hcb hsb K hd hx
  | astore k => exact tw_n_astore C Wd hf hcb hsb K hd hx
  | iinc k n => exact tw_n_iinc C Wd hf hcb hsb K hd hx
  | iadd => exact tw_n_iadd C Wd hf hcb hsb K hd hx
  | isub => exact tw_n_isub C Wd hf hcb hsb K hd hx
  | imul => exact tw_n_imul C Wd hf hcb hsb K hd hx
  | iand => exact tw_n_iand C Wd hf hcb hsb K hd hx
  | ior => exact tw_n_ior C Wd hf hcb hsb K hd hx
  | ixor => exact tw_n_ixor C Wd hf hcb hsb K hd hx
  | ishl => exact tw_n_ishl C Wd hf hcb hsb K hd hx
  | ishr => exact tw_n_ishr C Wd hf hcb hsb K hd hx
  | iushr => exact tw_n_iushr C Wd hf hcb hsb K hd hx
  | idiv => exact tw_n_idiv C Wd hf hcb hsb K hd hx
  | irem => exact tw_n_irem C Wd hf hcb hsb K hd hx
  | ladd => exact tw_n_ladd C Wd hf hcb hsb K hd hx
  | lsub => exact tw_n_lsub C Wd hf hcb hsb K hd hx
  | lmul => exact tw_n_lmul C Wd hf hcb hsb K hd hx
  | lcmp => exact tw_n_lcmp C Wd hf hcb hsb K hd hx
  | ldiv => exact tw_n_ldiv C Wd hf hcb hsb K hd hx
  | lrem => exact tw_n_lrem C Wd hf hcb hsb K hd hx
  | i2l => exact tw_n_i2l C Wd hf hcb hsb K hd hx
  | i2b => exact tw_n_i2b C Wd hf hcb hsb K hd hx
  | i2s => exact tw_n_i2s C Wd hf hcb hsb K hd hx
  | dup => exact tw_n_dup C Wd hf hcb hsb K hd hx
  | dup_x1 => exact tw_n_dup_x1 C Wd hf hcb hsb K hd hx
  | dup2 => exact tw_n_dup2 C Wd hf hcb hsb K hd hx
  | ifCond cnd off => exact tw_n_ifc C Wd hf hcb hsb K hd hx
  | if_icmp cnd off => exact tw_n_ificmp C Wd hf hcb hsb K hd hx
  | goto off => exact tw_n_goto C Wd hf hcb hsb K hd hx
  | ifnull off => exact tw_n_ifnull C Wd hf hcb hsb K hd hx
  | ifnonnull off => exact tw_n_ifnonnull C Wd hf hcb hsb K hd hx
  | tableswitch d lo hi offs => exact tw_n_tsw C Wd hf hcb hsb K hd hx
  | lookupswitch d ps => exact tw_n_lsw C Wd hf hcb hsb K hd hx
  | getfield n => exact tw_n_getfield C Wd hf hcb hsb K hd hx
  | putfield n => exact tw_n_putfield C Wd hf hcb hsb K hd hx
  | iaload => exact tw_n_iaload C Wd hf hcb hsb K hd hx
  | iastore => exact tw_n_iastore C Wd hf hcb hsb K hd hx
  | aaload => exact tw_n_aaload C Wd hf hcb hsb K hd hx
  | aastore => exact tw_n_aastore C Wd hf hcb hsb K hd hx
  | arraylength => exact tw_n_alen C Wd hf hcb hsb K hd hx
  | new n => exact tw_n_new C Wd hf hcb hsb K hd hx
  | anewarray i => exact tw_n_anewarray C Wd hf hcb hsb K hd hx
  | invokestatic i => exact tw_n_static C Wd hf hcb hsb K hd hx
  | invokespecial i => exact tw_n_special C Wd hf hcb hsb K hd hx
  | invokevirtual i => exact tw_n_virtual C Wd hf hcb hsb K hd hx
  | newarray a =>
    cases a with
    | int => exact tw_n_newarray C Wd hf hcb hsb K hd hx
    | _ => simp [tw_do] at hx
  | ireturn | lreturn | areturn | return_ =>
    exfalso
    simp only [tw_do] at hx
    replace hx := (tw_gS.mp hx).2
    split at hx <;> first | (cases hx; done) | (exact absurd (tw_gS.mp hx).2 (fun z => by cases z)) | (obtain ⟨a, -, hx⟩ := Option.bind_eq_some_iff.mp hx; exact absurd (tw_gS.mp hx).2 (fun z => by cases z))
  | _ => simp [tw_do] at hx
theorem tw_body (C : tw_Cx p s m args meth c mi) (Wd : tw_Wd cA D s) (hf : tw_rk mi ≤ R.frames ∧ 36 * tw_rk mi ≤ R.locals) (hm : ∀ t, t < 178 → tw_rk t < tw_rk mi → tw_M l base b0 L0 cA D xs t) (hcb : h1.1 ≤ R.cells + k0) (hsb : h1.2.1 ≤ R.slots + k1)
    (fin : ∀ (pc len : Nat) (L S : List Value) (ins : Instr), decode (tw_c mi) pc = .ok (ins, len) → tw_do mi pc L S h1 len ins = some (.inl (v, h1)) → tw_K p l e R s m args below meth c Q base b0 L0 k0 k1 cA D xs mi pc L S h1) : ∀ (F pc : Nat) (L S : List Value) (h : tw_H), tw_run F (mi, pc, L, S, h) = some (v, h1) → tw_K p l e R s m args below meth c Q base b0 L0 k0 k1 cA D xs mi pc L S h
  | 0, pc, L, S, h, hx => by simp [tw_run] at hx
  | F + 1, pc, L, S, h, hx => by
    have ih := tw_body C Wd hf hm hcb hsb fin F
    simp only [tw_run] at hx
    cases hs : tw_stp (mi, pc, L, S, h) with
    | none => rw [hs] at hx; cases hx
    | some o =>
      rw [hs] at hx
      obtain ⟨ins, len, hd, hdo, hg⟩ := tw_stp_gd hs
      rcases o with r | σ' | ⟨σ1, k⟩
      · simp only at hx
        cases hx
        have he : h1 = h := hg
        subst he
        exact fin pc len L S ins hd hdo
      · simp only at hx
        obtain ⟨g1, g2, g3⟩ : σ'.1 = mi ∧ h.1 ≤ σ'.2.2.2.2.1 ∧ h.2.1 ≤ σ'.2.2.2.2.2.1 := hg
        have hgr := tw_run_gd _ _ _ hx
        obtain ⟨m2, pc2, L2, S2, h2⟩ := σ'
        dsimp only at g1
        subst g1
        exact tw_next C Wd hf (Nat.le_trans hgr.1 hcb) (Nat.le_trans hgr.2 hsb) (ih _ _ _ _ hx) ins hd hdo
      · simp only at hx
        obtain ⟨g1, g2, g3⟩ : σ1.2.2.2.2 = h ∧ k.1 = mi ∧ tw_ic ins = true := hg
        obtain ⟨⟨v1, h2⟩, hr1, hr2⟩ := Option.bind_eq_some_iff.mp hx
        have hgr1 := tw_run_gd _ _ _ hr1
        have hgr2 := tw_run_gd _ _ _ hr2
        rw [g1] at hgr1
        obtain ⟨m2, pc2, L2, S2⟩ := k
        dsimp only at g2 hr2 hgr2
        subst g2
        have K := ih _ _ _ _ hr2
        cases ins with
        | invokestatic i => exact tw_q_static C Wd hf hm ⟨F, hr1⟩ hgr1 (Nat.le_trans hgr2.1 hcb) (Nat.le_trans hgr2.2 hsb) K hd hdo
        | invokespecial i => exact tw_q_special C Wd hf hm ⟨F, hr1⟩ hgr1 (Nat.le_trans hgr2.1 hcb) (Nat.le_trans hgr2.2 hsb) K hd hdo
        | invokevirtual i => exact tw_q_virtual C Wd hf hm ⟨F, hr1⟩ hgr1 (Nat.le_trans hgr2.1 hcb) (Nat.le_trans hgr2.2 hsb) K hd hdo
        | _ => cases g3
end TWB
theorem tw_ea_args (base b0 : Nat) : ∀ (vs : List Value) (k i : Nat) (v : Value), (tw_ea vs)[i]? = some v → v ≠ tw_un → (k + i, tw_v base b0 v) ∈ lv_args k (vs.map (tw_v base b0))
  | [], k, i, v, h, _ => by simp [tw_ea] at h
  | w :: vs, k, i, v, h, hv => by
    have ih := tw_ea_args base b0 vs
    simp only [tw_ea] at h
    simp only [List.map_cons, lv_args, tw_v_cat]
    by_cases hc : w.category = 2
    · rw [if_pos hc] at h ⊢
      match i, h with
      | 0, h => cases h; exact List.mem_cons_self
      | 1, h => cases h; exact absurd rfl hv
      | i + 2, h =>
        refine List.mem_cons_of_mem _ ?_
        rw [show k + (i + 2) = k + 2 + i by omega]
        exact ih (k + 2) i v h hv
    · rw [if_neg hc] at h ⊢
      match i, h with
      | 0, h => cases h; exact List.mem_cons_self
      | i + 1, h =>
        refine List.mem_cons_of_mem _ ?_
        rw [show k + (i + 1) = k + 1 + i by omega]
        exact ih (k + 1) i v h hv
theorem tw_ea_len (base b0 : Nat) : ∀ (vs : List Value), (lg_sl (vs.map (tw_v base b0))).length = (tw_ea vs).length
  | [] => rfl
  | w :: vs => by
    have ih := tw_ea_len base b0 vs
    unfold lg_sl at ih ⊢
    rw [List.map_cons, List.flatMap_cons, List.length_append, ih, tw_ea, tw_v_cat]
    split <;> simp <;> omega
theorem tw_entry {base b0 t : Nat} {vs : List Value} (h : (tw_ea vs).length ≤ tw_ml t) : tw_LR base b0 ((lg_sl (vs.map (tw_v base b0)) ++ List.replicate (tw_ml t - (lg_sl (vs.map (tw_v base b0))).length) Slot.unset).toArray) (tw_ml t) (tw_en t vs) := by
  have he := lv_entry (vs.map (tw_v base b0)) (n := tw_ml t) (by rw [tw_ea_len]; exact h)
  refine ⟨he.1, he.2.1, by simp [tw_en]; omega, fun i v hi hv => ?_⟩
  unfold tw_en at hi
  by_cases hl : i < (tw_ea vs).length
  · rw [List.getElem?_append_left hl] at hi
    have := tw_ea_args base b0 vs 0 i v hi hv
    rw [Nat.zero_add] at this
    exact he.2.2 _ this
  · rw [List.getElem?_append_right (by omega)] at hi
    exact absurd (List.eq_of_mem_replicate (List.mem_of_getElem? hi)) hv
theorem tw_nbS {mi : Nat} {x : Int32} (h : tw_nb mi x = true) : ∃ ty, tw_rt mi = some ty ∧ narrow ty (.int x) = .int x := by
  unfold tw_nb at h
  split at h
  · rename_i q; exact ⟨_, q, rfl⟩
  · rename_i q
    simp only [Bool.or_eq_true, decide_eq_true_eq] at h
    rcases h with rfl | rfl
    · exact ⟨_, q, rfl⟩
    · exact ⟨_, q, rfl⟩
  · cases h
/-- every method's contract: what the small machine's run answers, the real one answers -/
theorem tw_all (l : Launch) (base b0 L0 : Nat) (cA : Nat → ClassId) (D : va_G) (xs : Nat → Int32) : ∀ (n t : Nat), t < 178 → tw_rk t ≤ n → tw_M l base b0 L0 cA D xs t := by
  intro n
  induction n using Nat.strongRecOn with
  | _ n ihn =>
  intro t ht hrk vs h v h1 hrun hea
  obtain ⟨m1, m2, m3, m4, m5⟩ := tw_mS ht
  obtain ⟨F, hrun⟩ := hrun
  have hgr := tw_run_gd _ _ _ hrun
  refine Met.ofW (cc := tw_c t) (maxL := tw_ml t) (ret := tw_rt t) m2 rfl ?_
  intro p e s m args below meth c s₁ B hml hv
  obtain ⟨rfl, hRel, hWd⟩ := hv
  have hts := atoms_spec (ws := tw_ws t) B.pre
  have hnm := (name_of_methodNamed B.named B.method).1
  have hown : s.vm.findClass (tw_R (tw_ow t)) = some m.cls := by rw [← m3]; exact findClass_of_methodNamed B.named
  have C : tw_Cx p s m (vs.map (tw_v base b0)).toArray meth c t := ⟨B.exec, B.bytes, hml, B.returns, hown, B.notSynchronized, fun q => hnm.trans q, fun w hw => hts w (List.mem_cons_of_mem _ hw)⟩
  have hlocks := B.notSynchronized
  have hm : ∀ t', t' < 178 → tw_rk t' < tw_rk t → tw_M l base b0 L0 cA D xs t' := fun t' ht' hr' => ihn (tw_rk t') (by omega) t' ht' (Nat.le_refl _)
  rw [lg_entry_eq]
  have K := tw_body (p := p) (e := e) (below := below) (R := (headSpec (tw_ws t) (tw_rm t (h1.1 - h.1) (h1.2.1 - h.2.1))).room) (Q := MQ below (tw_Qc base b0 L0 cA D xs v h1) (vs.map (tw_v base b0)).toArray s (h1.1 - h.1) (h1.2.1 - h.2.1) (fun q => base ≤ q)) (k0 := h.1) (k1 := h.2.1) (h1 := h1) (v := v) C hWd ⟨Nat.le_refl _, Nat.le_refl _⟩ hm (show h1.1 ≤ h1.1 - h.1 + h.1 by have := hgr.1; dsimp only at this; omega) (show h1.2.1 ≤ h1.2.1 - h.2.1 + h.2.1 by have := hgr.2; dsimp only at this; omega) (fun pc len L S ins hd hx => ?_) F 0 (tw_en t vs) [] h hrun
  · exact K s.heap _ [] 0 0 hRel (tw_entry hea) (fun q hq => by cases hq) (Nat.zero_add _) (Nat.zero_add _)
  · intro H ls locs cells slots hR hL hlo hc hs
    have hc : cells = h1.1 - h.1 := by omega
    have hs : slots = h1.2.1 - h.2.1 := by omega
    subst hc
    subst hs
    have hq : ∀ t' : State, t'.heap = H → s.WarmedH t'.vm → tw_Qc base b0 L0 cA D xs v h1 (vs.map (tw_v base b0)).toArray s (.returned (v.map (tw_v base b0))) t' := fun t' ht' hW => ⟨rfl, by rw [ht']; exact hR.moved hW.alike⟩
    have hX := B.exec
    have hB := B.bytes
    cases ins with
    | ireturn =>
      simp only [tw_do] at hx
      replace hx := tw_gS.mp hx
      obtain ⟨hl, hx⟩ := hx
      obtain rfl := eq_of_beq hl
      split at hx
      · replace hx := tw_gS.mp hx
        obtain ⟨hb, hx⟩ := hx
        cases hx
        obtain ⟨ty, hty, hn⟩ := tw_nbS hb
        exact W.zret hX hB (B.returns.trans hty) hn hq hlo hd
      · cases hx
    | lreturn =>
      simp only [tw_do] at hx
      replace hx := tw_gS.mp hx
      obtain ⟨hl, hx⟩ := hx
      obtain rfl := eq_of_beq hl
      split at hx
      · replace hx := tw_gS.mp hx
        obtain ⟨hb, hx⟩ := hx
        cases hx
        have hty : tw_rt t = some .long := by
          unfold tw_isL at hb
          split at hb
          · assumption
          · cases hb
        exact W.lret hX hB (B.returns.trans hty) hq hlo hd
      · cases hx
    | areturn =>
      simp only [tw_do] at hx
      replace hx := tw_gS.mp hx
      obtain ⟨hl, hx⟩ := hx
      obtain rfl := eq_of_beq hl
      split at hx
      · replace hx := Option.bind_eq_some_iff.mp hx
        obtain ⟨w, hw, hx⟩ := hx
        obtain ⟨rfl, hz⟩ := tw_asAS hw
        replace hx := tw_gS.mp hx
        obtain ⟨hb, hx⟩ := hx
        cases hx
        obtain ⟨nmr, hty⟩ : ∃ n, tw_rt t = some (.object n) := by
          unfold tw_isA at hb
          split at hb
          · exact ⟨_, by assumption⟩
          · cases hb
        refine W.aret (v := tw_v base b0 _) hX hB (B.returns.trans hty) (Or.inl ⟨_, rfl⟩) ?_ hq hlo hd
        rcases hz with rfl | ⟨a, rfl⟩
        · exact Or.inl rfl
        · exact Or.inr ⟨_, rfl⟩
      · cases hx
    | return_ =>
      simp only [tw_do] at hx
      replace hx := tw_gS.mp hx
      obtain ⟨hl, hx⟩ := hx
      obtain rfl := eq_of_beq hl
      split at hx
      · replace hx := tw_gS.mp hx
        obtain ⟨hb, hx⟩ := hx
        cases hx
        have hty : tw_rt t = none := by
          unfold tw_isV at hb
          split at hb
          · assumption
          · cases hb
        exact W.vret hX hB (B.returns.trans hty) hq hlo hd
      · cases hx
    | _ => exact absurd hx (tw_noret _ rfl)
