/-! THE SMALL MACHINE'S RUNS ARE THE REAL ONE'S. A cell k + 1 stands at base + k, cell 0 (the script) at b0 -/
theorem tw_gS {α : Type} {b : Bool} {o : Option α} {x : α} : tw_g b o = some x ↔ b = true ∧ o = some x := by
  unfold tw_g
  split
  · rename_i h; simp [h]
  · rename_i h; simp [h]
theorem tw_pIS {S : List Value} {q : Int32 × List Value} (h : tw_pI S = some q) : S = .int q.1 :: q.2 := by
  unfold tw_pI at h
  split at h
  · cases h; rfl
  · cases h
theorem tw_pLS {S : List Value} {q : Int64 × List Value} (h : tw_pL S = some q) : S = .long q.1 :: q.2 := by
  unfold tw_pL at h
  split at h
  · cases h; rfl
  · cases h
theorem tw_pRS {S : List Value} {q : Nat × List Value} (h : tw_pR S = some q) : S = .ref q.1 :: q.2 := by
  unfold tw_pR at h
  split at h
  · cases h; rfl
  · cases h
theorem tw_pVS {S : List Value} {q : Value × List Value} (h : tw_pV S = some q) : S = q.1 :: q.2 := by
  unfold tw_pV at h
  split at h
  · cases h; rfl
  · cases h
theorem tw_asIS {v : Value} {x : Int32} (h : tw_asI v = some x) : v = .int x := by
  unfold tw_asI at h
  split at h
  · cases h; rfl
  · cases h
theorem tw_asLS {v : Value} {x : Int64} (h : tw_asL v = some x) : v = .long x := by
  unfold tw_asL at h
  split at h
  · cases h; rfl
  · cases h
theorem tw_asAS {v w : Value} (h : tw_asA v = some w) : v = w ∧ (w = .null ∨ ∃ a, w = .ref a) := by
  unfold tw_asA at h
  split at h
  · cases h; exact ⟨rfl, Or.inr ⟨_, rfl⟩⟩
  · cases h; exact ⟨rfl, Or.inl rfl⟩
  · cases h
theorem tw_toS {pc : Nat} {off : Int} {k : Nat → Option tw_O} {o : tw_O} (h : tw_to pc off k = some o) : ∃ t : Nat, (pc : Int) + off = (t : Int) ∧ k t = some o := by
  unfold tw_to at h
  obtain ⟨h1, h2⟩ := tw_gS.mp h
  have h1 := of_decide_eq_true h1
  exact ⟨_, (Int.toNat_of_nonneg h1).symm, h2⟩
theorem tw_nxS {mi pc : Nat} {L S : List Value} {h : tw_H} {σ : tw_S} (hx : tw_nx mi pc L S h = some (.inr (.inl σ))) : σ = (mi, pc, L, S, h) := by
  unfold tw_nx at hx
  cases hx
  rfl
theorem tw_viS {i : Int32} {n : Nat} (h : tw_vi i n = true) : vp_in i n ∧ i.toNatClampNeg < n := by
  unfold tw_vi at h
  simp only [Bool.and_eq_true, decide_eq_true_eq] at h
  refine ⟨fun q => ?_, h.2⟩
  rcases q with q | q
  · exact absurd q (Int32.not_lt.mpr h.1)
  · omega
/-! where cells stand, what values are there -/
def tw_ad (base b0 : Nat) : Nat → Nat
  | 0 => b0
  | k + 1 => base + k
def tw_v (base b0 : Nat) : Value → Value
  | .ref k => .ref (tw_ad base b0 k)
  | v => v
theorem tw_v_cat (base b0 : Nat) (v : Value) : (tw_v base b0 v).category = v.category := by cases v <;> rfl
def tw_e (base b0 : Nat) (cA : Nat → ClassId) : tw_C → va_E
  | .inl (n, f) => .inl (cA 0, n, .inl f)
  | .inr (.inl (t, n, g)) => .inl (cA t, n, .inr (.inr (.inr (.inr fun j => (g j).map (tw_ad base b0)))))
  | .inr (.inr (c, fs)) => .inr (c, fs.map (tw_v base b0))
def tw_Rel (base b0 L0 : Nat) (cA : Nat → ClassId) (D : va_G) (xs : Nat → Int32) (h : tw_H) (U : State) (H : Heap) : Prop :=
  1 ≤ h.1 ∧ H.size + 1 = base + h.1 ∧ b0 < base ∧ va_X b0 L0 xs U H ∧ h.2.2 0 = some (.inl (L0, xs)) ∧ ∀ k e, h.2.2 (k + 1) = some e → va_at D tw_cl (base + k, tw_e base b0 cA e) H
def tw_tys (cA : Nat → ClassId) : List (ClassId × FieldType) := [(cA 0, .int), (cA 1, .object "TideWheels$Row"), (cA 2, .object "TideWheels$Work")]
/-- what the tables give, in every state that a call reaches -/
def tw_Wd (cA : Nat → ClassId) (D : va_G) (U : State) : Prop := va_K D tw_cl (tw_tys cA) U ∧ va_AO "TideWheels$Row" U ∧ va_AO "TideWheels$Work" U ∧ ∀ w ∈ lw_tbl, tw_xw w = true → va_Nw w U
theorem tw_Wd.warm {cA : Nat → ClassId} {D : va_G} {s U : State} (hW : s.WarmedH U.vm) (h : tw_Wd cA D s) : tw_Wd cA D U := by
  obtain ⟨h1, h2, h3, h4⟩ := h
  refine ⟨h1.moved hW.alike, h2.moved hW.alike, h3.moved hW.alike, fun w hw hx => ?_⟩
  have hz := h4 w hw hx
  cases w <;> first | (simp [tw_xw] at hx; done) | exact hz.warmM hW | exact hz.warmC hW
theorem tw_Wd.same {cA : Nat → ClassId} {D : va_G} {s U : State} (hv : s.vm = U.vm) (h : tw_Wd cA D s) : tw_Wd cA D U := by
  obtain ⟨h1, h2, h3, h4⟩ := h
  have hal : s.vm.Alike U.vm := hv ▸ Vm.Alike.refl _
  refine ⟨h1.moved hal, h2.moved hal, h3.moved hal, fun w hw hx => ?_⟩
  have hz := h4 w hw hx
  cases w <;> first | (simp [tw_xw] at hx; done) | exact hz.same rfl hv
theorem tw_Rel.moved {base b0 L0 : Nat} {cA : Nat → ClassId} {D : va_G} {xs : Nat → Int32} {h : tw_H} {s U : State} {H : Heap} (hal : s.vm.Alike U.vm) (r : tw_Rel base b0 L0 cA D xs h s H) : tw_Rel base b0 L0 cA D xs h U H := by
  obtain ⟨r1, r2, r3, r4, r5, r6⟩ := r
  exact ⟨r1, r2, r3, r4.moved hal, r5, r6⟩
/-- one cell is written: the others stay -/
theorem tw_Rel.set {base b0 L0 : Nat} {cA : Nat → ClassId} {D : va_G} {xs : Nat → Int32} {h : tw_H} {U : State} {H H1 : Heap} (r : tw_Rel base b0 L0 cA D xs h U H) {k : Nat} {x : tw_C} (hz : H1.size = H.size) (hat : va_at D tw_cl (base + k, tw_e base b0 cA x) H1) (oq : ∀ q, q ≠ base + k → H1[q]? = H[q]?) : tw_Rel base b0 L0 cA D xs (tw_set h (k + 1) x) U H1 := by
  obtain ⟨r1, r2, r3, r4, r5, r6⟩ := r
  refine ⟨r1, by show H1.size + 1 = base + h.1; omega, r3, r4.kept (oq _ (by omega)), ?_, fun j e hj => ?_⟩
  · show (if 0 = k + 1 then some x else h.2.2 0) = _
    rw [if_neg (by omega)]; exact r5
  · have hj : (if j + 1 = k + 1 then some x else h.2.2 (j + 1)) = some e := hj
    by_cases hjk : j = k
    · subst hjk
      rw [if_pos rfl] at hj
      cases hj
      exact hat
    · rw [if_neg (by omega)] at hj
      exact (r6 j e hj).kept (oq _ (by show base + j ≠ base + k; omega))
/-- a cell comes -/
theorem tw_Rel.new {base b0 L0 : Nat} {cA : Nat → ClassId} {D : va_G} {xs : Nat → Int32} {h : tw_H} {U : State} {H H1 : Heap} (r : tw_Rel base b0 L0 cA D xs h U H) {x : tw_C} {n : Nat} (hz : H1.size = H.size + 1) (hat : va_at D tw_cl (H.size, tw_e base b0 cA x) H1) (oq : ∀ q, q < H.size → H1[q]? = H[q]?) : tw_Rel base b0 L0 cA D xs (tw_new h x n) U H1 ∧ tw_ad base b0 h.1 = H.size := by
  obtain ⟨r1, r2, r3, r4, r5, r6⟩ := r
  obtain ⟨k, hk⟩ : ∃ k, h.1 = k + 1 := ⟨h.1 - 1, by omega⟩
  have hb : b0 < H.size := by
    obtain ⟨scr, g, -⟩ := r4
    exact (Array.getElem?_eq_some_iff.mp g).1
  refine ⟨⟨by show 1 ≤ h.1 + 1; omega, by show H1.size + 1 = base + (h.1 + 1); omega, r3, r4.kept (oq _ hb), ?_, fun j e hj => ?_⟩, ?_⟩
  · show (if 0 = h.1 then some x else h.2.2 0) = _
    rw [if_neg (by omega)]; exact r5
  · have hj : (if j + 1 = h.1 then some x else h.2.2 (j + 1)) = some e := hj
    by_cases hjk : j + 1 = h.1
    · rw [if_pos hjk] at hj
      cases hj
      have : base + j = H.size := by omega
      rw [this]
      exact hat
    · rw [if_neg hjk] at hj
      exact (r6 j e hj).kept (oq _ (r6 j e hj).lt)
  · rw [hk]
    show base + k = H.size
    omega
theorem tw_Rel.at {base b0 L0 : Nat} {cA : Nat → ClassId} {D : va_G} {xs : Nat → Int32} {h : tw_H} {U : State} {H : Heap} (r : tw_Rel base b0 L0 cA D xs h U H) {a : Nat} (ha : a ≠ 0) {x : tw_C} (hx : h.2.2 a = some x) : va_at D tw_cl (tw_ad base b0 a, tw_e base b0 cA x) H ∧ base ≤ tw_ad base b0 a := by
  obtain ⟨k, rfl⟩ : ∃ k, a = k + 1 := ⟨a - 1, by omega⟩
  exact ⟨r.2.2.2.2.2 k x hx, Nat.le_add_right _ _⟩
/-- the locals -/
def tw_LR (base b0 : Nat) (ls : Array Slot) (n : Nat) (L : List Value) : Prop := ls.size = n ∧ lv_wf ls ∧ L.length = n ∧ ∀ (i : Nat) (v : Value), L[i]? = some v → v ≠ tw_un → ls[i]? = some (Slot.val (tw_v base b0 v))
def tw_pl (base b0 : Nat) (L : List Value) : List (Nat × Value) := (List.range L.length).filterMap fun i => if L.getD i tw_un = tw_un then none else some (i, tw_v base b0 (L.getD i tw_un))
theorem tw_pl_mem {base b0 : Nat} {L : List Value} {i : Nat} {v : Value} (h : L[i]? = some v) (hv : v ≠ tw_un) : (i, tw_v base b0 v) ∈ tw_pl base b0 L := by
  have hl := (List.getElem?_eq_some_iff.mp h).1
  have hg : L.getD i tw_un = v := by simp [List.getD, h]
  refine List.mem_filterMap.mpr ⟨i, List.mem_range.mpr hl, ?_⟩
  rw [hg, if_neg hv]
theorem tw_LR.has {base b0 n : Nat} {ls : Array Slot} {L : List Value} (h : tw_LR base b0 ls n L) : lv_has ls n (tw_pl base b0 L) := by
  refine ⟨h.1, h.2.1, fun q hq => ?_⟩
  obtain ⟨i, hi, he⟩ := List.mem_filterMap.mp hq
  split at he
  · cases he
  · rename_i hne
    cases he
    have hl := List.mem_range.mp hi
    exact h.2.2.2 i _ (by rw [List.getD_eq_getElem?_getD]; simp [hl]) hne
theorem tw_LR.get {base b0 n : Nat} {ls : Array Slot} {L : List Value} (h : tw_LR base b0 ls n L) {i : Nat} {v : Value} (hv : L[i]? = some v) (hn : v ≠ tw_un) : ls[i]? = some (.val (tw_v base b0 v)) := h.2.2.2 i v hv hn
theorem tw_stS {base b0 n : Nat} {L L' : List Value} {i : Nat} {v : Value} (h : tw_st L i v = some L') (hL : L.length = n) {ls' : Array Slot} (hs : lv_has ls' n ((i, tw_v base b0 v) :: (tw_pl base b0 L).filter (fun q => !(q.1 == i) && !(q.1 + 1 == i && q.2.category == 2)))) : tw_LR base b0 ls' n L' := by
  obtain ⟨hg, he⟩ := tw_gS.mp h
  cases he
  simp only [Bool.and_eq_true, decide_eq_true_eq] at hg
  refine ⟨hs.1, hs.2.1, by simp [hL], fun j w hj hw => ?_⟩
  by_cases hji : j = i
  · subst hji
    rw [List.getElem?_set_self hg.1] at hj
    cases hj
    exact hs.2.2 _ List.mem_cons_self
  · rw [List.getElem?_set_ne (Ne.symm hji)] at hj
    refine hs.2.2 (j, tw_v base b0 w) (List.mem_cons_of_mem _ (List.mem_filter.mpr ⟨tw_pl_mem hj hw, ?_⟩))
    simp only [Bool.and_eq_true, Bool.not_eq_true', beq_eq_false_iff_ne, ne_eq, Bool.and_eq_false_iff, tw_v_cat]
    refine ⟨hji, ?_⟩
    cases i with
    | zero => exact Or.inl (by omega)
    | succ i =>
      by_cases hj2 : j = i
      · subst hj2
        have h2 := of_decide_eq_true hg.2
        rw [show L.getD j tw_un = w by simp [List.getD, hj]] at h2
        exact Or.inr h2
      · exact Or.inl (by omega)
theorem tw_st2S {base b0 n : Nat} {L L' : List Value} {i : Nat} {v : Value} (h : tw_st2 L i v = some L') (hL : L.length = n) {ls' : Array Slot} (hs : lv_has ls' n ((i, tw_v base b0 v) :: (tw_pl base b0 L).filter (fun q => !(q.1 == i) && (!(q.1 == i + 1) && !(q.1 + 1 == i && q.2.category == 2))))) : tw_LR base b0 ls' n L' := by
  obtain ⟨hg, he⟩ := tw_gS.mp h
  cases he
  simp only [Bool.and_eq_true, decide_eq_true_eq] at hg
  refine ⟨hs.1, hs.2.1, by simp [hL], fun j w hj hw => ?_⟩
  by_cases hj1 : j = i + 1
  · subst hj1
    rw [List.getElem?_set_self (by simp; omega)] at hj
    cases hj
    exact absurd rfl hw
  · rw [List.getElem?_set_ne (Ne.symm hj1)] at hj
    by_cases hji : j = i
    · subst hji
      rw [List.getElem?_set_self (by omega)] at hj
      cases hj
      exact hs.2.2 _ List.mem_cons_self
    · rw [List.getElem?_set_ne (Ne.symm hji)] at hj
      refine hs.2.2 (j, tw_v base b0 w) (List.mem_cons_of_mem _ (List.mem_filter.mpr ⟨tw_pl_mem hj hw, ?_⟩))
      simp only [Bool.and_eq_true, Bool.not_eq_true', beq_eq_false_iff_ne, ne_eq, Bool.and_eq_false_iff, tw_v_cat]
      refine ⟨hji, hj1, ?_⟩
      cases i with
      | zero => exact Or.inl (by omega)
      | succ i =>
        by_cases hj2 : j = i
        · subst hj2
          have h2 := of_decide_eq_true hg.2
          rw [show L.getD j tw_un = w by simp [List.getD, hj]] at h2
          exact Or.inr h2
        · exact Or.inl (by omega)
theorem tw_st_lt {L L' : List Value} {i : Nat} {v : Value} (h : tw_st L i v = some L') : i < L.length := by
  obtain ⟨hg, -⟩ := tw_gS.mp h
  simp only [Bool.and_eq_true, decide_eq_true_eq] at hg
  exact hg.1
theorem tw_st2_lt {L L' : List Value} {i : Nat} {v : Value} (h : tw_st2 L i v = some L') : i + 1 < L.length := by
  obtain ⟨hg, -⟩ := tw_gS.mp h
  simp only [Bool.and_eq_true, decide_eq_true_eq] at hg
  exact hg.1
theorem tw_un_int (x : Int32) : Value.int x ≠ tw_un := fun h => by cases h
theorem tw_un_long (x : Int64) : Value.long x ≠ tw_un := fun h => by cases h
theorem tw_un_ref (x : Nat) : Value.ref x ≠ tw_un := fun h => by cases h
theorem tw_un_null : Value.null ≠ tw_un := fun h => by cases h
/-- one activation of a method -/
def tw_Cx (p : Program) (s : State) (m : MethodId) (args : Array Value) (meth : Method) (c : Code) (mi : Nat) : Prop := p.tables.exec = Jvm.exec ∧ c.code = tw_c mi ∧ c.maxLocals = tw_ml mi ∧ meth.sig.returnType = tw_rt mi ∧ s.vm.findClass (tw_R (tw_ow mi)) = some m.cls ∧ meth.locks = false ∧ ((tw_y mi).name = "<init>" → meth.name = "<init>") ∧ ∀ w ∈ tw_gt, w.before args s = true
/-- from this state of the small machine the real one comes to Q -/
def tw_K (p : Program) (l : Launch) (e : Env) (R : Room) (s : State) (m : MethodId) (args : Array Value) (below : List Frame) (meth : Method) (c : Code) (Q : State → Prop) (base b0 L0 k0 k1 : Nat) (cA : Nat → ClassId) (D : va_G) (xs : Nat → Int32) (mi pc : Nat) (L S : List Value) (h : tw_H) : Prop :=
  ∀ (H : Heap) (ls : Array Slot) (locs : List Loc) (cells slots : Nat), tw_Rel base b0 L0 cA D xs h s H → tw_LR base b0 ls (tw_ml mi) L → (∀ q ∈ locs, base ≤ q.base) → cells + k0 = h.1 → slots + k1 = h.2.1 → W p l e R s m args below meth c H locs cells slots Q (F0 m pc ls (S.map (tw_v base b0)))
section TWN
variable {p : Program} {l : Launch} {e : Env} {R : Room} {s : State} {m : MethodId} {args : Array Value} {below : List Frame} {meth : Method} {c : Code} {Q : State → Prop} {base b0 L0 k0 k1 : Nat} {cA : Nat → ClassId} {D : va_G} {xs : Nat → Int32} {mi pc len : Nat} {L S : List Value} {h : tw_H} {σ : tw_S}
theorem tw_n_iconst {n : Int} (C : tw_Cx p s m args meth c mi) (Wd : tw_Wd cA D s) (hf : tw_rk mi ≤ R.frames ∧ 36 * tw_rk mi ≤ R.locals) (hcb : σ.2.2.2.2.1 ≤ R.cells + k0) (hsb : σ.2.2.2.2.2.1 ≤ R.slots + k1) (K : tw_K p l e R s m args below meth c Q base b0 L0 k0 k1 cA D xs σ.1 σ.2.1 σ.2.2.1 σ.2.2.2.1 σ.2.2.2.2) (hd : decode (tw_c mi) pc = .ok (.iconst n, len)) (hx : tw_do mi pc L S h len (.iconst n) = some (.inr (.inl σ))) : tw_K p l e R s m args below meth c Q base b0 L0 k0 k1 cA D xs mi pc L S h := by
  obtain ⟨hX, hB, hM, hrt, hown, hlk, hnm, hts⟩ := C
  simp only [tw_do] at hx
  replace hx := tw_gS.mp hx
  obtain ⟨hl, hx⟩ := hx
  obtain rfl := eq_of_beq hl
  obtain rfl := tw_nxS hx
  intro H ls locs cells slots hR hL hlo hc hs
  exact lv_iconst hX hB hd rfl (K H ls locs cells slots hR hL hlo hc hs)
theorem tw_n_bipush {n : Int} (C : tw_Cx p s m args meth c mi) (Wd : tw_Wd cA D s) (hf : tw_rk mi ≤ R.frames ∧ 36 * tw_rk mi ≤ R.locals) (hcb : σ.2.2.2.2.1 ≤ R.cells + k0) (hsb : σ.2.2.2.2.2.1 ≤ R.slots + k1) (K : tw_K p l e R s m args below meth c Q base b0 L0 k0 k1 cA D xs σ.1 σ.2.1 σ.2.2.1 σ.2.2.2.1 σ.2.2.2.2) (hd : decode (tw_c mi) pc = .ok (.bipush n, len)) (hx : tw_do mi pc L S h len (.bipush n) = some (.inr (.inl σ))) : tw_K p l e R s m args below meth c Q base b0 L0 k0 k1 cA D xs mi pc L S h := by
  obtain ⟨hX, hB, hM, hrt, hown, hlk, hnm, hts⟩ := C
  simp only [tw_do] at hx
  replace hx := tw_gS.mp hx
  obtain ⟨hl, hx⟩ := hx
  obtain rfl := eq_of_beq hl
  obtain rfl := tw_nxS hx
  intro H ls locs cells slots hR hL hlo hc hs
  exact lv_bipush hX hB hd rfl (K H ls locs cells slots hR hL hlo hc hs)
theorem tw_n_sipush {n : Int} (C : tw_Cx p s m args meth c mi) (Wd : tw_Wd cA D s) (hf : tw_rk mi ≤ R.frames ∧ 36 * tw_rk mi ≤ R.locals) (hcb : σ.2.2.2.2.1 ≤ R.cells + k0) (hsb : σ.2.2.2.2.2.1 ≤ R.slots + k1) (K : tw_K p l e R s m args below meth c Q base b0 L0 k0 k1 cA D xs σ.1 σ.2.1 σ.2.2.1 σ.2.2.2.1 σ.2.2.2.2) (hd : decode (tw_c mi) pc = .ok (.sipush n, len)) (hx : tw_do mi pc L S h len (.sipush n) = some (.inr (.inl σ))) : tw_K p l e R s m args below meth c Q base b0 L0 k0 k1 cA D xs mi pc L S h := by
  obtain ⟨hX, hB, hM, hrt, hown, hlk, hnm, hts⟩ := C
  simp only [tw_do] at hx
  replace hx := tw_gS.mp hx
  obtain ⟨hl, hx⟩ := hx
  obtain rfl := eq_of_beq hl
  obtain rfl := tw_nxS hx
  intro H ls locs cells slots hR hL hlo hc hs
  exact lv_sipush hX hB hd rfl (K H ls locs cells slots hR hL hlo hc hs)
theorem tw_n_lconst {n : Fin 2} (C : tw_Cx p s m args meth c mi) (Wd : tw_Wd cA D s) (hf : tw_rk mi ≤ R.frames ∧ 36 * tw_rk mi ≤ R.locals) (hcb : σ.2.2.2.2.1 ≤ R.cells + k0) (hsb : σ.2.2.2.2.2.1 ≤ R.slots + k1) (K : tw_K p l e R s m args below meth c Q base b0 L0 k0 k1 cA D xs σ.1 σ.2.1 σ.2.2.1 σ.2.2.2.1 σ.2.2.2.2) (hd : decode (tw_c mi) pc = .ok (.lconst n, len)) (hx : tw_do mi pc L S h len (.lconst n) = some (.inr (.inl σ))) : tw_K p l e R s m args below meth c Q base b0 L0 k0 k1 cA D xs mi pc L S h := by
  obtain ⟨hX, hB, hM, hrt, hown, hlk, hnm, hts⟩ := C
  simp only [tw_do] at hx
  replace hx := tw_gS.mp hx
  obtain ⟨hl, hx⟩ := hx
  obtain rfl := eq_of_beq hl
  obtain rfl := tw_nxS hx
  intro H ls locs cells slots hR hL hlo hc hs
  exact lv_lconst hX hB hd rfl (K H ls locs cells slots hR hL hlo hc hs)
theorem tw_n_anull (C : tw_Cx p s m args meth c mi) (Wd : tw_Wd cA D s) (hf : tw_rk mi ≤ R.frames ∧ 36 * tw_rk mi ≤ R.locals) (hcb : σ.2.2.2.2.1 ≤ R.cells + k0) (hsb : σ.2.2.2.2.2.1 ≤ R.slots + k1) (K : tw_K p l e R s m args below meth c Q base b0 L0 k0 k1 cA D xs σ.1 σ.2.1 σ.2.2.1 σ.2.2.2.1 σ.2.2.2.2) (hd : decode (tw_c mi) pc = .ok (.aconst_null, len)) (hx : tw_do mi pc L S h len (.aconst_null) = some (.inr (.inl σ))) : tw_K p l e R s m args below meth c Q base b0 L0 k0 k1 cA D xs mi pc L S h := by
  obtain ⟨hX, hB, hM, hrt, hown, hlk, hnm, hts⟩ := C
  simp only [tw_do] at hx
  replace hx := tw_gS.mp hx
  obtain ⟨hl, hx⟩ := hx
  obtain rfl := eq_of_beq hl
  obtain rfl := tw_nxS hx
  intro H ls locs cells slots hR hL hlo hc hs
  exact lv_null hX hB hd (K H ls locs cells slots hR hL hlo hc hs)
theorem tw_n_ldc2 {n : Nat} (C : tw_Cx p s m args meth c mi) (Wd : tw_Wd cA D s) (hf : tw_rk mi ≤ R.frames ∧ 36 * tw_rk mi ≤ R.locals) (hcb : σ.2.2.2.2.1 ≤ R.cells + k0) (hsb : σ.2.2.2.2.2.1 ≤ R.slots + k1) (K : tw_K p l e R s m args below meth c Q base b0 L0 k0 k1 cA D xs σ.1 σ.2.1 σ.2.2.1 σ.2.2.2.1 σ.2.2.2.2) (hd : decode (tw_c mi) pc = .ok (.ldc2_w n, len)) (hx : tw_do mi pc L S h len (.ldc2_w n) = some (.inr (.inl σ))) : tw_K p l e R s m args below meth c Q base b0 L0 k0 k1 cA D xs mi pc L S h := by
  obtain ⟨hX, hB, hM, hrt, hown, hlk, hnm, hts⟩ := C
  simp only [tw_do] at hx
  replace hx := tw_gS.mp hx
  obtain ⟨hl, hx⟩ := hx
  obtain rfl := eq_of_beq hl
  replace hx := Option.bind_eq_some_iff.mp hx
  obtain ⟨q, hq, hx⟩ := hx
  obtain rfl := tw_nxS hx
  intro H ls locs cells slots hR hL hlo hc hs
  exact lv_ldc2 hX hB hown (hts _ (tw_gt_of (tw_llok hq) rfl)) hd (K H ls locs cells slots hR hL hlo hc hs)
theorem tw_n_ldcw {n : Nat} (C : tw_Cx p s m args meth c mi) (Wd : tw_Wd cA D s) (hf : tw_rk mi ≤ R.frames ∧ 36 * tw_rk mi ≤ R.locals) (hcb : σ.2.2.2.2.1 ≤ R.cells + k0) (hsb : σ.2.2.2.2.2.1 ≤ R.slots + k1) (K : tw_K p l e R s m args below meth c Q base b0 L0 k0 k1 cA D xs σ.1 σ.2.1 σ.2.2.1 σ.2.2.2.1 σ.2.2.2.2) (hd : decode (tw_c mi) pc = .ok (.ldc_w n, len)) (hx : tw_do mi pc L S h len (.ldc_w n) = some (.inr (.inl σ))) : tw_K p l e R s m args below meth c Q base b0 L0 k0 k1 cA D xs mi pc L S h := by
  obtain ⟨hX, hB, hM, hrt, hown, hlk, hnm, hts⟩ := C
  simp only [tw_do] at hx
  replace hx := tw_gS.mp hx
  obtain ⟨hl, hx⟩ := hx
  obtain rfl := eq_of_beq hl
  replace hx := Option.bind_eq_some_iff.mp hx
  obtain ⟨q, hq, hx⟩ := hx
  obtain rfl := tw_nxS hx
  intro H ls locs cells slots hR hL hlo hc hs
  exact lv_ldcw hX hB hown (hts _ (tw_gt_of (tw_liok hq) rfl)) hd (K H ls locs cells slots hR hL hlo hc hs)
theorem tw_n_iload_n {k : Fin 4} (C : tw_Cx p s m args meth c mi) (Wd : tw_Wd cA D s) (hf : tw_rk mi ≤ R.frames ∧ 36 * tw_rk mi ≤ R.locals) (hcb : σ.2.2.2.2.1 ≤ R.cells + k0) (hsb : σ.2.2.2.2.2.1 ≤ R.slots + k1) (K : tw_K p l e R s m args below meth c Q base b0 L0 k0 k1 cA D xs σ.1 σ.2.1 σ.2.2.1 σ.2.2.2.1 σ.2.2.2.2) (hd : decode (tw_c mi) pc = .ok (.iload_n k, len)) (hx : tw_do mi pc L S h len (.iload_n k) = some (.inr (.inl σ))) : tw_K p l e R s m args below meth c Q base b0 L0 k0 k1 cA D xs mi pc L S h := by
  obtain ⟨hX, hB, hM, hrt, hown, hlk, hnm, hts⟩ := C
  simp only [tw_do] at hx
  replace hx := tw_gS.mp hx
  obtain ⟨hl, hx⟩ := hx
  obtain rfl := eq_of_beq hl
  replace hx := Option.bind_eq_some_iff.mp hx
  obtain ⟨x, hq, hx⟩ := hx
  replace hq := Option.bind_eq_some_iff.mp hq
  obtain ⟨v, hv, hq⟩ := hq
  obtain rfl := tw_asIS hq
  obtain rfl := tw_nxS hx
  intro H ls locs cells slots hR hL hlo hc hs
  exact lv_iload_n hX hB hd rfl (hL.get hv (tw_un_int _)) (K H ls locs cells slots hR hL hlo hc hs)
theorem tw_n_iload {k : Nat} (C : tw_Cx p s m args meth c mi) (Wd : tw_Wd cA D s) (hf : tw_rk mi ≤ R.frames ∧ 36 * tw_rk mi ≤ R.locals) (hcb : σ.2.2.2.2.1 ≤ R.cells + k0) (hsb : σ.2.2.2.2.2.1 ≤ R.slots + k1) (K : tw_K p l e R s m args below meth c Q base b0 L0 k0 k1 cA D xs σ.1 σ.2.1 σ.2.2.1 σ.2.2.2.1 σ.2.2.2.2) (hd : decode (tw_c mi) pc = .ok (.iload k, len)) (hx : tw_do mi pc L S h len (.iload k) = some (.inr (.inl σ))) : tw_K p l e R s m args below meth c Q base b0 L0 k0 k1 cA D xs mi pc L S h := by
  obtain ⟨hX, hB, hM, hrt, hown, hlk, hnm, hts⟩ := C
  simp only [tw_do] at hx
  replace hx := tw_gS.mp hx
  obtain ⟨hl, hx⟩ := hx
  obtain rfl := eq_of_beq hl
  replace hx := Option.bind_eq_some_iff.mp hx
  obtain ⟨x, hq, hx⟩ := hx
  replace hq := Option.bind_eq_some_iff.mp hq
  obtain ⟨v, hv, hq⟩ := hq
  obtain rfl := tw_asIS hq
  obtain rfl := tw_nxS hx
  intro H ls locs cells slots hR hL hlo hc hs
  exact lv_iload hX hB hd (hL.get hv (tw_un_int _)) (K H ls locs cells slots hR hL hlo hc hs)
theorem tw_n_lload_n {k : Fin 4} (C : tw_Cx p s m args meth c mi) (Wd : tw_Wd cA D s) (hf : tw_rk mi ≤ R.frames ∧ 36 * tw_rk mi ≤ R.locals) (hcb : σ.2.2.2.2.1 ≤ R.cells + k0) (hsb : σ.2.2.2.2.2.1 ≤ R.slots + k1) (K : tw_K p l e R s m args below meth c Q base b0 L0 k0 k1 cA D xs σ.1 σ.2.1 σ.2.2.1 σ.2.2.2.1 σ.2.2.2.2) (hd : decode (tw_c mi) pc = .ok (.lload_n k, len)) (hx : tw_do mi pc L S h len (.lload_n k) = some (.inr (.inl σ))) : tw_K p l e R s m args below meth c Q base b0 L0 k0 k1 cA D xs mi pc L S h := by
  obtain ⟨hX, hB, hM, hrt, hown, hlk, hnm, hts⟩ := C
  simp only [tw_do] at hx
  replace hx := tw_gS.mp hx
  obtain ⟨hl, hx⟩ := hx
  obtain rfl := eq_of_beq hl
  replace hx := Option.bind_eq_some_iff.mp hx
  obtain ⟨x, hq, hx⟩ := hx
  replace hq := Option.bind_eq_some_iff.mp hq
  obtain ⟨v, hv, hq⟩ := hq
  obtain rfl := tw_asLS hq
  obtain rfl := tw_nxS hx
  intro H ls locs cells slots hR hL hlo hc hs
  exact lv_lload_n hX hB hd rfl (hL.get hv (tw_un_long _)) (K H ls locs cells slots hR hL hlo hc hs)
theorem tw_n_lload {k : Nat} (C : tw_Cx p s m args meth c mi) (Wd : tw_Wd cA D s) (hf : tw_rk mi ≤ R.frames ∧ 36 * tw_rk mi ≤ R.locals) (hcb : σ.2.2.2.2.1 ≤ R.cells + k0) (hsb : σ.2.2.2.2.2.1 ≤ R.slots + k1) (K : tw_K p l e R s m args below meth c Q base b0 L0 k0 k1 cA D xs σ.1 σ.2.1 σ.2.2.1 σ.2.2.2.1 σ.2.2.2.2) (hd : decode (tw_c mi) pc = .ok (.lload k, len)) (hx : tw_do mi pc L S h len (.lload k) = some (.inr (.inl σ))) : tw_K p l e R s m args below meth c Q base b0 L0 k0 k1 cA D xs mi pc L S h := by
  obtain ⟨hX, hB, hM, hrt, hown, hlk, hnm, hts⟩ := C
  simp only [tw_do] at hx
  replace hx := tw_gS.mp hx
  obtain ⟨hl, hx⟩ := hx
  obtain rfl := eq_of_beq hl
  replace hx := Option.bind_eq_some_iff.mp hx
  obtain ⟨x, hq, hx⟩ := hx
  replace hq := Option.bind_eq_some_iff.mp hq
  obtain ⟨v, hv, hq⟩ := hq
  obtain rfl := tw_asLS hq
  obtain rfl := tw_nxS hx
  intro H ls locs cells slots hR hL hlo hc hs
  exact lv_lload hX hB hd (hL.get hv (tw_un_long _)) (K H ls locs cells slots hR hL hlo hc hs)
theorem tw_n_aload_n {k : Fin 4} (C : tw_Cx p s m args meth c mi) (Wd : tw_Wd cA D s) (hf : tw_rk mi ≤ R.frames ∧ 36 * tw_rk mi ≤ R.locals) (hcb : σ.2.2.2.2.1 ≤ R.cells + k0) (hsb : σ.2.2.2.2.2.1 ≤ R.slots + k1) (K : tw_K p l e R s m args below meth c Q base b0 L0 k0 k1 cA D xs σ.1 σ.2.1 σ.2.2.1 σ.2.2.2.1 σ.2.2.2.2) (hd : decode (tw_c mi) pc = .ok (.aload_n k, len)) (hx : tw_do mi pc L S h len (.aload_n k) = some (.inr (.inl σ))) : tw_K p l e R s m args below meth c Q base b0 L0 k0 k1 cA D xs mi pc L S h := by
  obtain ⟨hX, hB, hM, hrt, hown, hlk, hnm, hts⟩ := C
  simp only [tw_do] at hx
  replace hx := tw_gS.mp hx
  obtain ⟨hl, hx⟩ := hx
  obtain rfl := eq_of_beq hl
  replace hx := Option.bind_eq_some_iff.mp hx
  obtain ⟨x, hq, hx⟩ := hx
  replace hq := Option.bind_eq_some_iff.mp hq
  obtain ⟨v, hv, hq⟩ := hq
  obtain ⟨rfl, hz⟩ := tw_asAS hq
  obtain rfl := tw_nxS hx
  intro H ls locs cells slots hR hL hlo hc hs
  rcases hz with rfl | ⟨a, rfl⟩
  · exact lv_aload_nN hX hB hd rfl (hL.get hv tw_un_null) (K H ls locs cells slots hR hL hlo hc hs)
  · exact lv_aload_n hX hB hd rfl (hL.get hv (tw_un_ref _)) (K H ls locs cells slots hR hL hlo hc hs)
theorem tw_n_aload {k : Nat} (C : tw_Cx p s m args meth c mi) (Wd : tw_Wd cA D s) (hf : tw_rk mi ≤ R.frames ∧ 36 * tw_rk mi ≤ R.locals) (hcb : σ.2.2.2.2.1 ≤ R.cells + k0) (hsb : σ.2.2.2.2.2.1 ≤ R.slots + k1) (K : tw_K p l e R s m args below meth c Q base b0 L0 k0 k1 cA D xs σ.1 σ.2.1 σ.2.2.1 σ.2.2.2.1 σ.2.2.2.2) (hd : decode (tw_c mi) pc = .ok (.aload k, len)) (hx : tw_do mi pc L S h len (.aload k) = some (.inr (.inl σ))) : tw_K p l e R s m args below meth c Q base b0 L0 k0 k1 cA D xs mi pc L S h := by
  obtain ⟨hX, hB, hM, hrt, hown, hlk, hnm, hts⟩ := C
  simp only [tw_do] at hx
  replace hx := tw_gS.mp hx
  obtain ⟨hl, hx⟩ := hx
  obtain rfl := eq_of_beq hl
  replace hx := Option.bind_eq_some_iff.mp hx
  obtain ⟨x, hq, hx⟩ := hx
  replace hq := Option.bind_eq_some_iff.mp hq
  obtain ⟨v, hv, hq⟩ := hq
  obtain ⟨rfl, hz⟩ := tw_asAS hq
  obtain rfl := tw_nxS hx
  intro H ls locs cells slots hR hL hlo hc hs
  rcases hz with rfl | ⟨a, rfl⟩
  · exact lv_aloadN hX hB hd (hL.get hv tw_un_null) (K H ls locs cells slots hR hL hlo hc hs)
  · exact lv_aload hX hB hd (hL.get hv (tw_un_ref _)) (K H ls locs cells slots hR hL hlo hc hs)
theorem tw_n_istore_n {k : Fin 4} (C : tw_Cx p s m args meth c mi) (Wd : tw_Wd cA D s) (hf : tw_rk mi ≤ R.frames ∧ 36 * tw_rk mi ≤ R.locals) (hcb : σ.2.2.2.2.1 ≤ R.cells + k0) (hsb : σ.2.2.2.2.2.1 ≤ R.slots + k1) (K : tw_K p l e R s m args below meth c Q base b0 L0 k0 k1 cA D xs σ.1 σ.2.1 σ.2.2.1 σ.2.2.2.1 σ.2.2.2.2) (hd : decode (tw_c mi) pc = .ok (.istore_n k, len)) (hx : tw_do mi pc L S h len (.istore_n k) = some (.inr (.inl σ))) : tw_K p l e R s m args below meth c Q base b0 L0 k0 k1 cA D xs mi pc L S h := by
  obtain ⟨hX, hB, hM, hrt, hown, hlk, hnm, hts⟩ := C
  simp only [tw_do] at hx
  replace hx := tw_gS.mp hx
  obtain ⟨hl, hx⟩ := hx
  obtain rfl := eq_of_beq hl
  replace hx := Option.bind_eq_some_iff.mp hx
  obtain ⟨⟨x, T⟩, hq, hx⟩ := hx
  obtain rfl := tw_pIS hq
  replace hx := Option.bind_eq_some_iff.mp hx
  obtain ⟨L', hst, hx⟩ := hx
  obtain rfl := tw_nxS hx
  intro H ls locs cells slots hR hL hlo hc hs
  exact lv_istore_n hX hB hd rfl hL.has (by have := tw_st_lt hst; rw [hL.2.2.1] at this; exact this) rfl (fun ls' hl => K H ls' locs cells slots hR (tw_stS hst hL.2.2.1 hl) hlo hc hs)
theorem tw_n_istore {k : Nat} (C : tw_Cx p s m args meth c mi) (Wd : tw_Wd cA D s) (hf : tw_rk mi ≤ R.frames ∧ 36 * tw_rk mi ≤ R.locals) (hcb : σ.2.2.2.2.1 ≤ R.cells + k0) (hsb : σ.2.2.2.2.2.1 ≤ R.slots + k1) (K : tw_K p l e R s m args below meth c Q base b0 L0 k0 k1 cA D xs σ.1 σ.2.1 σ.2.2.1 σ.2.2.2.1 σ.2.2.2.2) (hd : decode (tw_c mi) pc = .ok (.istore k, len)) (hx : tw_do mi pc L S h len (.istore k) = some (.inr (.inl σ))) : tw_K p l e R s m args below meth c Q base b0 L0 k0 k1 cA D xs mi pc L S h := by
  obtain ⟨hX, hB, hM, hrt, hown, hlk, hnm, hts⟩ := C
  simp only [tw_do] at hx
  replace hx := tw_gS.mp hx
  obtain ⟨hl, hx⟩ := hx
  obtain rfl := eq_of_beq hl
  replace hx := Option.bind_eq_some_iff.mp hx
  obtain ⟨⟨x, T⟩, hq, hx⟩ := hx
  obtain rfl := tw_pIS hq
  replace hx := Option.bind_eq_some_iff.mp hx
  obtain ⟨L', hst, hx⟩ := hx
  obtain rfl := tw_nxS hx
  intro H ls locs cells slots hR hL hlo hc hs
  exact lv_istore hX hB hd hL.has (by have := tw_st_lt hst; rw [hL.2.2.1] at this; exact this) rfl (fun ls' hl => K H ls' locs cells slots hR (tw_stS hst hL.2.2.1 hl) hlo hc hs)
theorem tw_n_lstore_n {k : Fin 4} (C : tw_Cx p s m args meth c mi) (Wd : tw_Wd cA D s) (hf : tw_rk mi ≤ R.frames ∧ 36 * tw_rk mi ≤ R.locals) (hcb : σ.2.2.2.2.1 ≤ R.cells + k0) (hsb : σ.2.2.2.2.2.1 ≤ R.slots + k1) (K : tw_K p l e R s m args below meth c Q base b0 L0 k0 k1 cA D xs σ.1 σ.2.1 σ.2.2.1 σ.2.2.2.1 σ.2.2.2.2) (hd : decode (tw_c mi) pc = .ok (.lstore_n k, len)) (hx : tw_do mi pc L S h len (.lstore_n k) = some (.inr (.inl σ))) : tw_K p l e R s m args below meth c Q base b0 L0 k0 k1 cA D xs mi pc L S h := by
  obtain ⟨hX, hB, hM, hrt, hown, hlk, hnm, hts⟩ := C
  simp only [tw_do] at hx
  replace hx := tw_gS.mp hx
  obtain ⟨hl, hx⟩ := hx
  obtain rfl := eq_of_beq hl
  replace hx := Option.bind_eq_some_iff.mp hx
  obtain ⟨⟨x, T⟩, hq, hx⟩ := hx
  obtain rfl := tw_pLS hq
  replace hx := Option.bind_eq_some_iff.mp hx
  obtain ⟨L', hst, hx⟩ := hx
  obtain rfl := tw_nxS hx
  intro H ls locs cells slots hR hL hlo hc hs
  exact lv_lstore_n hX hB hd rfl hL.has (by have := tw_st2_lt hst; rw [hL.2.2.1] at this; exact this) rfl (fun ls' hl => K H ls' locs cells slots hR (tw_st2S hst hL.2.2.1 hl) hlo hc hs)
theorem tw_n_lstore {k : Nat} (C : tw_Cx p s m args meth c mi) (Wd : tw_Wd cA D s) (hf : tw_rk mi ≤ R.frames ∧ 36 * tw_rk mi ≤ R.locals) (hcb : σ.2.2.2.2.1 ≤ R.cells + k0) (hsb : σ.2.2.2.2.2.1 ≤ R.slots + k1) (K : tw_K p l e R s m args below meth c Q base b0 L0 k0 k1 cA D xs σ.1 σ.2.1 σ.2.2.1 σ.2.2.2.1 σ.2.2.2.2) (hd : decode (tw_c mi) pc = .ok (.lstore k, len)) (hx : tw_do mi pc L S h len (.lstore k) = some (.inr (.inl σ))) : tw_K p l e R s m args below meth c Q base b0 L0 k0 k1 cA D xs mi pc L S h := by
  obtain ⟨hX, hB, hM, hrt, hown, hlk, hnm, hts⟩ := C
  simp only [tw_do] at hx
  replace hx := tw_gS.mp hx
  obtain ⟨hl, hx⟩ := hx
  obtain rfl := eq_of_beq hl
  replace hx := Option.bind_eq_some_iff.mp hx
  obtain ⟨⟨x, T⟩, hq, hx⟩ := hx
  obtain rfl := tw_pLS hq
  replace hx := Option.bind_eq_some_iff.mp hx
  obtain ⟨L', hst, hx⟩ := hx
  obtain rfl := tw_nxS hx
  intro H ls locs cells slots hR hL hlo hc hs
  exact lv_lstore hX hB hd hL.has (by have := tw_st2_lt hst; rw [hL.2.2.1] at this; exact this) rfl (fun ls' hl => K H ls' locs cells slots hR (tw_st2S hst hL.2.2.1 hl) hlo hc hs)
theorem tw_n_astore_n {k : Fin 4} (C : tw_Cx p s m args meth c mi) (Wd : tw_Wd cA D s) (hf : tw_rk mi ≤ R.frames ∧ 36 * tw_rk mi ≤ R.locals) (hcb : σ.2.2.2.2.1 ≤ R.cells + k0) (hsb : σ.2.2.2.2.2.1 ≤ R.slots + k1) (K : tw_K p l e R s m args below meth c Q base b0 L0 k0 k1 cA D xs σ.1 σ.2.1 σ.2.2.1 σ.2.2.2.1 σ.2.2.2.2) (hd : decode (tw_c mi) pc = .ok (.astore_n k, len)) (hx : tw_do mi pc L S h len (.astore_n k) = some (.inr (.inl σ))) : tw_K p l e R s m args below meth c Q base b0 L0 k0 k1 cA D xs mi pc L S h := by
  obtain ⟨hX, hB, hM, hrt, hown, hlk, hnm, hts⟩ := C
  simp only [tw_do] at hx
  replace hx := tw_gS.mp hx
  obtain ⟨hl, hx⟩ := hx
  obtain rfl := eq_of_beq hl
  replace hx := Option.bind_eq_some_iff.mp hx
  obtain ⟨⟨x, T⟩, hq, hx⟩ := hx
  obtain rfl := tw_pVS hq
  replace hx := Option.bind_eq_some_iff.mp hx
  obtain ⟨v, hv, hx⟩ := hx
  obtain ⟨he, hz⟩ := tw_asAS hv
  dsimp only at he
  subst he
  replace hx := Option.bind_eq_some_iff.mp hx
  obtain ⟨L', hst, hx⟩ := hx
  obtain rfl := tw_nxS hx
  intro H ls locs cells slots hR hL hlo hc hs
  rcases hz with rfl | ⟨a, rfl⟩
  · exact lv_astore_nN hX hB hd rfl hL.has (by have := tw_st_lt hst; rw [hL.2.2.1] at this; exact this) rfl (fun ls' hl => K H ls' locs cells slots hR (tw_stS hst hL.2.2.1 hl) hlo hc hs)
  · exact lv_astore_n hX hB hd rfl hL.has (by have := tw_st_lt hst; rw [hL.2.2.1] at this; exact this) rfl (fun ls' hl => K H ls' locs cells slots hR (tw_stS hst hL.2.2.1 hl) hlo hc hs)
theorem tw_n_astore {k : Nat} (C : tw_Cx p s m args meth c mi) (Wd : tw_Wd cA D s) (hf : tw_rk mi ≤ R.frames ∧ 36 * tw_rk mi ≤ R.locals) (hcb : σ.2.2.2.2.1 ≤ R.cells + k0) (hsb : σ.2.2.2.2.2.1 ≤ R.slots + k1) (K : tw_K p l e R s m args below meth c Q base b0 L0 k0 k1 cA D xs σ.1 σ.2.1 σ.2.2.1 σ.2.2.2.1 σ.2.2.2.2) (hd : decode (tw_c mi) pc = .ok (.astore k, len)) (hx : tw_do mi pc L S h len (.astore k) = some (.inr (.inl σ))) : tw_K p l e R s m args below meth c Q base b0 L0 k0 k1 cA D xs mi pc L S h := by
  obtain ⟨hX, hB, hM, hrt, hown, hlk, hnm, hts⟩ := C
  simp only [tw_do] at hx
  replace hx := tw_gS.mp hx
  obtain ⟨hl, hx⟩ := hx
  obtain rfl := eq_of_beq hl
  replace hx := Option.bind_eq_some_iff.mp hx
  obtain ⟨⟨x, T⟩, hq, hx⟩ := hx
  obtain rfl := tw_pVS hq
  replace hx := Option.bind_eq_some_iff.mp hx
  obtain ⟨v, hv, hx⟩ := hx
  obtain ⟨he, hz⟩ := tw_asAS hv
  dsimp only at he
  subst he
  replace hx := Option.bind_eq_some_iff.mp hx
  obtain ⟨L', hst, hx⟩ := hx
  obtain rfl := tw_nxS hx
  intro H ls locs cells slots hR hL hlo hc hs
  rcases hz with rfl | ⟨a, rfl⟩
  · exact lv_astoreN hX hB hd hL.has (by have := tw_st_lt hst; rw [hL.2.2.1] at this; exact this) rfl (fun ls' hl => K H ls' locs cells slots hR (tw_stS hst hL.2.2.1 hl) hlo hc hs)
  · exact lv_astore hX hB hd hL.has (by have := tw_st_lt hst; rw [hL.2.2.1] at this; exact this) rfl (fun ls' hl => K H ls' locs cells slots hR (tw_stS hst hL.2.2.1 hl) hlo hc hs)
theorem tw_n_iinc {k : Nat} {n : Int} (C : tw_Cx p s m args meth c mi) (Wd : tw_Wd cA D s) (hf : tw_rk mi ≤ R.frames ∧ 36 * tw_rk mi ≤ R.locals) (hcb : σ.2.2.2.2.1 ≤ R.cells + k0) (hsb : σ.2.2.2.2.2.1 ≤ R.slots + k1) (K : tw_K p l e R s m args below meth c Q base b0 L0 k0 k1 cA D xs σ.1 σ.2.1 σ.2.2.1 σ.2.2.2.1 σ.2.2.2.2) (hd : decode (tw_c mi) pc = .ok (.iinc k n, len)) (hx : tw_do mi pc L S h len (.iinc k n) = some (.inr (.inl σ))) : tw_K p l e R s m args below meth c Q base b0 L0 k0 k1 cA D xs mi pc L S h := by
  obtain ⟨hX, hB, hM, hrt, hown, hlk, hnm, hts⟩ := C
  simp only [tw_do] at hx
  replace hx := tw_gS.mp hx
  obtain ⟨hl, hx⟩ := hx
  obtain rfl := eq_of_beq hl
  replace hx := Option.bind_eq_some_iff.mp hx
  obtain ⟨x, hq, hx⟩ := hx
  replace hq := Option.bind_eq_some_iff.mp hq
  obtain ⟨v, hv, hq⟩ := hq
  obtain rfl := tw_asIS hq
  replace hx := Option.bind_eq_some_iff.mp hx
  obtain ⟨L', hst, hx⟩ := hx
  obtain rfl := tw_nxS hx
  intro H ls locs cells slots hR hL hlo hc hs
  have hm := tw_pl_mem (base := base) (b0 := b0) hv (tw_un_int x)
  obtain ⟨j, hj⟩ := List.getElem?_of_mem hm
  exact lv_iinc hX hB hd hL.has hj rfl (by have := tw_st_lt hst; rw [hL.2.2.1] at this; exact this) rfl (fun ls' hl => K H ls' locs cells slots hR (tw_stS hst hL.2.2.1 hl) hlo hc hs)
theorem tw_n_iadd (C : tw_Cx p s m args meth c mi) (Wd : tw_Wd cA D s) (hf : tw_rk mi ≤ R.frames ∧ 36 * tw_rk mi ≤ R.locals) (hcb : σ.2.2.2.2.1 ≤ R.cells + k0) (hsb : σ.2.2.2.2.2.1 ≤ R.slots + k1) (K : tw_K p l e R s m args below meth c Q base b0 L0 k0 k1 cA D xs σ.1 σ.2.1 σ.2.2.1 σ.2.2.2.1 σ.2.2.2.2) (hd : decode (tw_c mi) pc = .ok (.iadd, len)) (hx : tw_do mi pc L S h len (.iadd) = some (.inr (.inl σ))) : tw_K p l e R s m args below meth c Q base b0 L0 k0 k1 cA D xs mi pc L S h := by
  obtain ⟨hX, hB, hM, hrt, hown, hlk, hnm, hts⟩ := C
  simp only [tw_do] at hx
  replace hx := tw_gS.mp hx
  obtain ⟨hl, hx⟩ := hx
  obtain rfl := eq_of_beq hl
  replace hx := Option.bind_eq_some_iff.mp hx
  obtain ⟨⟨y, T⟩, hq, hx⟩ := hx
  obtain rfl := tw_pIS hq
  replace hx := Option.bind_eq_some_iff.mp hx
  obtain ⟨⟨x, T2⟩, hq2, hx⟩ := hx
  obtain rfl := tw_pIS hq2
  obtain rfl := tw_nxS hx
  intro H ls locs cells slots hR hL hlo hc hs
  exact lv_iadd hX hB hd (K H ls locs cells slots hR hL hlo hc hs)
theorem tw_n_isub (C : tw_Cx p s m args meth c mi) (Wd : tw_Wd cA D s) (hf : tw_rk mi ≤ R.frames ∧ 36 * tw_rk mi ≤ R.locals) (hcb : σ.2.2.2.2.1 ≤ R.cells + k0) (hsb : σ.2.2.2.2.2.1 ≤ R.slots + k1) (K : tw_K p l e R s m args below meth c Q base b0 L0 k0 k1 cA D xs σ.1 σ.2.1 σ.2.2.1 σ.2.2.2.1 σ.2.2.2.2) (hd : decode (tw_c mi) pc = .ok (.isub, len)) (hx : tw_do mi pc L S h len (.isub) = some (.inr (.inl σ))) : tw_K p l e R s m args below meth c Q base b0 L0 k0 k1 cA D xs mi pc L S h := by
  obtain ⟨hX, hB, hM, hrt, hown, hlk, hnm, hts⟩ := C
  simp only [tw_do] at hx
  replace hx := tw_gS.mp hx
  obtain ⟨hl, hx⟩ := hx
  obtain rfl := eq_of_beq hl
  replace hx := Option.bind_eq_some_iff.mp hx
  obtain ⟨⟨y, T⟩, hq, hx⟩ := hx
  obtain rfl := tw_pIS hq
  replace hx := Option.bind_eq_some_iff.mp hx
  obtain ⟨⟨x, T2⟩, hq2, hx⟩ := hx
  obtain rfl := tw_pIS hq2
  obtain rfl := tw_nxS hx
  intro H ls locs cells slots hR hL hlo hc hs
  exact lv_isub hX hB hd (K H ls locs cells slots hR hL hlo hc hs)
theorem tw_n_imul (C : tw_Cx p s m args meth c mi) (Wd : tw_Wd cA D s) (hf : tw_rk mi ≤ R.frames ∧ 36 * tw_rk mi ≤ R.locals) (hcb : σ.2.2.2.2.1 ≤ R.cells + k0) (hsb : σ.2.2.2.2.2.1 ≤ R.slots + k1) (K : tw_K p l e R s m args below meth c Q base b0 L0 k0 k1 cA D xs σ.1 σ.2.1 σ.2.2.1 σ.2.2.2.1 σ.2.2.2.2) (hd : decode (tw_c mi) pc = .ok (.imul, len)) (hx : tw_do mi pc L S h len (.imul) = some (.inr (.inl σ))) : tw_K p l e R s m args below meth c Q base b0 L0 k0 k1 cA D xs mi pc L S h := by
  obtain ⟨hX, hB, hM, hrt, hown, hlk, hnm, hts⟩ := C
  simp only [tw_do] at hx
  replace hx := tw_gS.mp hx
  obtain ⟨hl, hx⟩ := hx
  obtain rfl := eq_of_beq hl
  replace hx := Option.bind_eq_some_iff.mp hx
  obtain ⟨⟨y, T⟩, hq, hx⟩ := hx
  obtain rfl := tw_pIS hq
  replace hx := Option.bind_eq_some_iff.mp hx
  obtain ⟨⟨x, T2⟩, hq2, hx⟩ := hx
  obtain rfl := tw_pIS hq2
  obtain rfl := tw_nxS hx
  intro H ls locs cells slots hR hL hlo hc hs
  exact lv_imul hX hB hd (K H ls locs cells slots hR hL hlo hc hs)
theorem tw_n_iand (C : tw_Cx p s m args meth c mi) (Wd : tw_Wd cA D s) (hf : tw_rk mi ≤ R.frames ∧ 36 * tw_rk mi ≤ R.locals) (hcb : σ.2.2.2.2.1 ≤ R.cells + k0) (hsb : σ.2.2.2.2.2.1 ≤ R.slots + k1) (K : tw_K p l e R s m args below meth c Q base b0 L0 k0 k1 cA D xs σ.1 σ.2.1 σ.2.2.1 σ.2.2.2.1 σ.2.2.2.2) (hd : decode (tw_c mi) pc = .ok (.iand, len)) (hx : tw_do mi pc L S h len (.iand) = some (.inr (.inl σ))) : tw_K p l e R s m args below meth c Q base b0 L0 k0 k1 cA D xs mi pc L S h := by
  obtain ⟨hX, hB, hM, hrt, hown, hlk, hnm, hts⟩ := C
  simp only [tw_do] at hx
  replace hx := tw_gS.mp hx
  obtain ⟨hl, hx⟩ := hx
  obtain rfl := eq_of_beq hl
  replace hx := Option.bind_eq_some_iff.mp hx
  obtain ⟨⟨y, T⟩, hq, hx⟩ := hx
  obtain rfl := tw_pIS hq
  replace hx := Option.bind_eq_some_iff.mp hx
  obtain ⟨⟨x, T2⟩, hq2, hx⟩ := hx
  obtain rfl := tw_pIS hq2
  obtain rfl := tw_nxS hx
  intro H ls locs cells slots hR hL hlo hc hs
  exact lv_iand hX hB hd (K H ls locs cells slots hR hL hlo hc hs)
theorem tw_n_ior (C : tw_Cx p s m args meth c mi) (Wd : tw_Wd cA D s) (hf : tw_rk mi ≤ R.frames ∧ 36 * tw_rk mi ≤ R.locals) (hcb : σ.2.2.2.2.1 ≤ R.cells + k0) (hsb : σ.2.2.2.2.2.1 ≤ R.slots + k1) (K : tw_K p l e R s m args below meth c Q base b0 L0 k0 k1 cA D xs σ.1 σ.2.1 σ.2.2.1 σ.2.2.2.1 σ.2.2.2.2) (hd : decode (tw_c mi) pc = .ok (.ior, len)) (hx : tw_do mi pc L S h len (.ior) = some (.inr (.inl σ))) : tw_K p l e R s m args below meth c Q base b0 L0 k0 k1 cA D xs mi pc L S h := by
  obtain ⟨hX, hB, hM, hrt, hown, hlk, hnm, hts⟩ := C
  simp only [tw_do] at hx
  replace hx := tw_gS.mp hx
  obtain ⟨hl, hx⟩ := hx
  obtain rfl := eq_of_beq hl
  replace hx := Option.bind_eq_some_iff.mp hx
  obtain ⟨⟨y, T⟩, hq, hx⟩ := hx
  obtain rfl := tw_pIS hq
  replace hx := Option.bind_eq_some_iff.mp hx
  obtain ⟨⟨x, T2⟩, hq2, hx⟩ := hx
  obtain rfl := tw_pIS hq2
  obtain rfl := tw_nxS hx
  intro H ls locs cells slots hR hL hlo hc hs
  exact lv_ior hX hB hd (K H ls locs cells slots hR hL hlo hc hs)
theorem tw_n_ixor (C : tw_Cx p s m args meth c mi) (Wd : tw_Wd cA D s) (hf : tw_rk mi ≤ R.frames ∧ 36 * tw_rk mi ≤ R.locals) (hcb : σ.2.2.2.2.1 ≤ R.cells + k0) (hsb : σ.2.2.2.2.2.1 ≤ R.slots + k1) (K : tw_K p l e R s m args below meth c Q base b0 L0 k0 k1 cA D xs σ.1 σ.2.1 σ.2.2.1 σ.2.2.2.1 σ.2.2.2.2) (hd : decode (tw_c mi) pc = .ok (.ixor, len)) (hx : tw_do mi pc L S h len (.ixor) = some (.inr (.inl σ))) : tw_K p l e R s m args below meth c Q base b0 L0 k0 k1 cA D xs mi pc L S h := by
  obtain ⟨hX, hB, hM, hrt, hown, hlk, hnm, hts⟩ := C
  simp only [tw_do] at hx
  replace hx := tw_gS.mp hx
  obtain ⟨hl, hx⟩ := hx
  obtain rfl := eq_of_beq hl
  replace hx := Option.bind_eq_some_iff.mp hx
  obtain ⟨⟨y, T⟩, hq, hx⟩ := hx
  obtain rfl := tw_pIS hq
  replace hx := Option.bind_eq_some_iff.mp hx
  obtain ⟨⟨x, T2⟩, hq2, hx⟩ := hx
  obtain rfl := tw_pIS hq2
  obtain rfl := tw_nxS hx
  intro H ls locs cells slots hR hL hlo hc hs
  exact lv_ixor hX hB hd (K H ls locs cells slots hR hL hlo hc hs)
theorem tw_n_ishl (C : tw_Cx p s m args meth c mi) (Wd : tw_Wd cA D s) (hf : tw_rk mi ≤ R.frames ∧ 36 * tw_rk mi ≤ R.locals) (hcb : σ.2.2.2.2.1 ≤ R.cells + k0) (hsb : σ.2.2.2.2.2.1 ≤ R.slots + k1) (K : tw_K p l e R s m args below meth c Q base b0 L0 k0 k1 cA D xs σ.1 σ.2.1 σ.2.2.1 σ.2.2.2.1 σ.2.2.2.2) (hd : decode (tw_c mi) pc = .ok (.ishl, len)) (hx : tw_do mi pc L S h len (.ishl) = some (.inr (.inl σ))) : tw_K p l e R s m args below meth c Q base b0 L0 k0 k1 cA D xs mi pc L S h := by
  obtain ⟨hX, hB, hM, hrt, hown, hlk, hnm, hts⟩ := C
  simp only [tw_do] at hx
  replace hx := tw_gS.mp hx
  obtain ⟨hl, hx⟩ := hx
  obtain rfl := eq_of_beq hl
  replace hx := Option.bind_eq_some_iff.mp hx
  obtain ⟨⟨y, T⟩, hq, hx⟩ := hx
  obtain rfl := tw_pIS hq
  replace hx := Option.bind_eq_some_iff.mp hx
  obtain ⟨⟨x, T2⟩, hq2, hx⟩ := hx
  obtain rfl := tw_pIS hq2
  obtain rfl := tw_nxS hx
  intro H ls locs cells slots hR hL hlo hc hs
  exact lv_ishl hX hB hd (K H ls locs cells slots hR hL hlo hc hs)
theorem tw_n_ishr (C : tw_Cx p s m args meth c mi) (Wd : tw_Wd cA D s) (hf : tw_rk mi ≤ R.frames ∧ 36 * tw_rk mi ≤ R.locals) (hcb : σ.2.2.2.2.1 ≤ R.cells + k0) (hsb : σ.2.2.2.2.2.1 ≤ R.slots + k1) (K : tw_K p l e R s m args below meth c Q base b0 L0 k0 k1 cA D xs σ.1 σ.2.1 σ.2.2.1 σ.2.2.2.1 σ.2.2.2.2) (hd : decode (tw_c mi) pc = .ok (.ishr, len)) (hx : tw_do mi pc L S h len (.ishr) = some (.inr (.inl σ))) : tw_K p l e R s m args below meth c Q base b0 L0 k0 k1 cA D xs mi pc L S h := by
  obtain ⟨hX, hB, hM, hrt, hown, hlk, hnm, hts⟩ := C
  simp only [tw_do] at hx
  replace hx := tw_gS.mp hx
  obtain ⟨hl, hx⟩ := hx
  obtain rfl := eq_of_beq hl
  replace hx := Option.bind_eq_some_iff.mp hx
  obtain ⟨⟨y, T⟩, hq, hx⟩ := hx
  obtain rfl := tw_pIS hq
  replace hx := Option.bind_eq_some_iff.mp hx
  obtain ⟨⟨x, T2⟩, hq2, hx⟩ := hx
  obtain rfl := tw_pIS hq2
  obtain rfl := tw_nxS hx
  intro H ls locs cells slots hR hL hlo hc hs
  exact lv_ishr hX hB hd (K H ls locs cells slots hR hL hlo hc hs)
theorem tw_n_iushr (C : tw_Cx p s m args meth c mi) (Wd : tw_Wd cA D s) (hf : tw_rk mi ≤ R.frames ∧ 36 * tw_rk mi ≤ R.locals) (hcb : σ.2.2.2.2.1 ≤ R.cells + k0) (hsb : σ.2.2.2.2.2.1 ≤ R.slots + k1) (K : tw_K p l e R s m args below meth c Q base b0 L0 k0 k1 cA D xs σ.1 σ.2.1 σ.2.2.1 σ.2.2.2.1 σ.2.2.2.2) (hd : decode (tw_c mi) pc = .ok (.iushr, len)) (hx : tw_do mi pc L S h len (.iushr) = some (.inr (.inl σ))) : tw_K p l e R s m args below meth c Q base b0 L0 k0 k1 cA D xs mi pc L S h := by
  obtain ⟨hX, hB, hM, hrt, hown, hlk, hnm, hts⟩ := C
  simp only [tw_do] at hx
  replace hx := tw_gS.mp hx
  obtain ⟨hl, hx⟩ := hx
  obtain rfl := eq_of_beq hl
  replace hx := Option.bind_eq_some_iff.mp hx
  obtain ⟨⟨y, T⟩, hq, hx⟩ := hx
  obtain rfl := tw_pIS hq
  replace hx := Option.bind_eq_some_iff.mp hx
  obtain ⟨⟨x, T2⟩, hq2, hx⟩ := hx
  obtain rfl := tw_pIS hq2
  obtain rfl := tw_nxS hx
  intro H ls locs cells slots hR hL hlo hc hs
  exact lv_iushr hX hB hd rfl (K H ls locs cells slots hR hL hlo hc hs)
theorem tw_n_idiv (C : tw_Cx p s m args meth c mi) (Wd : tw_Wd cA D s) (hf : tw_rk mi ≤ R.frames ∧ 36 * tw_rk mi ≤ R.locals) (hcb : σ.2.2.2.2.1 ≤ R.cells + k0) (hsb : σ.2.2.2.2.2.1 ≤ R.slots + k1) (K : tw_K p l e R s m args below meth c Q base b0 L0 k0 k1 cA D xs σ.1 σ.2.1 σ.2.2.1 σ.2.2.2.1 σ.2.2.2.2) (hd : decode (tw_c mi) pc = .ok (.idiv, len)) (hx : tw_do mi pc L S h len (.idiv) = some (.inr (.inl σ))) : tw_K p l e R s m args below meth c Q base b0 L0 k0 k1 cA D xs mi pc L S h := by
  obtain ⟨hX, hB, hM, hrt, hown, hlk, hnm, hts⟩ := C
  simp only [tw_do] at hx
  replace hx := tw_gS.mp hx
  obtain ⟨hl, hx⟩ := hx
  obtain rfl := eq_of_beq hl
  replace hx := Option.bind_eq_some_iff.mp hx
  obtain ⟨⟨y, T⟩, hq, hx⟩ := hx
  obtain rfl := tw_pIS hq
  replace hx := Option.bind_eq_some_iff.mp hx
  obtain ⟨⟨x, T2⟩, hq2, hx⟩ := hx
  obtain rfl := tw_pIS hq2
  replace hx := tw_gS.mp hx
  obtain ⟨hz, hx⟩ := hx
  obtain rfl := tw_nxS hx
  intro H ls locs cells slots hR hL hlo hc hs
  exact lv_idiv hX hB hd (of_decide_eq_true hz) (K H ls locs cells slots hR hL hlo hc hs)
theorem tw_n_irem (C : tw_Cx p s m args meth c mi) (Wd : tw_Wd cA D s) (hf : tw_rk mi ≤ R.frames ∧ 36 * tw_rk mi ≤ R.locals) (hcb : σ.2.2.2.2.1 ≤ R.cells + k0) (hsb : σ.2.2.2.2.2.1 ≤ R.slots + k1) (K : tw_K p l e R s m args below meth c Q base b0 L0 k0 k1 cA D xs σ.1 σ.2.1 σ.2.2.1 σ.2.2.2.1 σ.2.2.2.2) (hd : decode (tw_c mi) pc = .ok (.irem, len)) (hx : tw_do mi pc L S h len (.irem) = some (.inr (.inl σ))) : tw_K p l e R s m args below meth c Q base b0 L0 k0 k1 cA D xs mi pc L S h := by
  obtain ⟨hX, hB, hM, hrt, hown, hlk, hnm, hts⟩ := C
  simp only [tw_do] at hx
  replace hx := tw_gS.mp hx
  obtain ⟨hl, hx⟩ := hx
  obtain rfl := eq_of_beq hl
  replace hx := Option.bind_eq_some_iff.mp hx
  obtain ⟨⟨y, T⟩, hq, hx⟩ := hx
  obtain rfl := tw_pIS hq
  replace hx := Option.bind_eq_some_iff.mp hx
  obtain ⟨⟨x, T2⟩, hq2, hx⟩ := hx
  obtain rfl := tw_pIS hq2
  replace hx := tw_gS.mp hx
  obtain ⟨hz, hx⟩ := hx
  obtain rfl := tw_nxS hx
  intro H ls locs cells slots hR hL hlo hc hs
  exact lv_irem hX hB hd (of_decide_eq_true hz) (K H ls locs cells slots hR hL hlo hc hs)
theorem tw_n_ladd (C : tw_Cx p s m args meth c mi) (Wd : tw_Wd cA D s) (hf : tw_rk mi ≤ R.frames ∧ 36 * tw_rk mi ≤ R.locals) (hcb : σ.2.2.2.2.1 ≤ R.cells + k0) (hsb : σ.2.2.2.2.2.1 ≤ R.slots + k1) (K : tw_K p l e R s m args below meth c Q base b0 L0 k0 k1 cA D xs σ.1 σ.2.1 σ.2.2.1 σ.2.2.2.1 σ.2.2.2.2) (hd : decode (tw_c mi) pc = .ok (.ladd, len)) (hx : tw_do mi pc L S h len (.ladd) = some (.inr (.inl σ))) : tw_K p l e R s m args below meth c Q base b0 L0 k0 k1 cA D xs mi pc L S h := by
  obtain ⟨hX, hB, hM, hrt, hown, hlk, hnm, hts⟩ := C
  simp only [tw_do] at hx
  replace hx := tw_gS.mp hx
  obtain ⟨hl, hx⟩ := hx
  obtain rfl := eq_of_beq hl
  replace hx := Option.bind_eq_some_iff.mp hx
  obtain ⟨⟨y, T⟩, hq, hx⟩ := hx
  obtain rfl := tw_pLS hq
  replace hx := Option.bind_eq_some_iff.mp hx
  obtain ⟨⟨x, T2⟩, hq2, hx⟩ := hx
  obtain rfl := tw_pLS hq2
  obtain rfl := tw_nxS hx
  intro H ls locs cells slots hR hL hlo hc hs
  exact lv_ladd hX hB hd (K H ls locs cells slots hR hL hlo hc hs)
theorem tw_n_lsub (C : tw_Cx p s m args meth c mi) (Wd : tw_Wd cA D s) (hf : tw_rk mi ≤ R.frames ∧ 36 * tw_rk mi ≤ R.locals) (hcb : σ.2.2.2.2.1 ≤ R.cells + k0) (hsb : σ.2.2.2.2.2.1 ≤ R.slots + k1) (K : tw_K p l e R s m args below meth c Q base b0 L0 k0 k1 cA D xs σ.1 σ.2.1 σ.2.2.1 σ.2.2.2.1 σ.2.2.2.2) (hd : decode (tw_c mi) pc = .ok (.lsub, len)) (hx : tw_do mi pc L S h len (.lsub) = some (.inr (.inl σ))) : tw_K p l e R s m args below meth c Q base b0 L0 k0 k1 cA D xs mi pc L S h := by
  obtain ⟨hX, hB, hM, hrt, hown, hlk, hnm, hts⟩ := C
  simp only [tw_do] at hx
  replace hx := tw_gS.mp hx
  obtain ⟨hl, hx⟩ := hx
  obtain rfl := eq_of_beq hl
  replace hx := Option.bind_eq_some_iff.mp hx
  obtain ⟨⟨y, T⟩, hq, hx⟩ := hx
  obtain rfl := tw_pLS hq
  replace hx := Option.bind_eq_some_iff.mp hx
  obtain ⟨⟨x, T2⟩, hq2, hx⟩ := hx
  obtain rfl := tw_pLS hq2
  obtain rfl := tw_nxS hx
  intro H ls locs cells slots hR hL hlo hc hs
  exact lv_lsub hX hB hd (K H ls locs cells slots hR hL hlo hc hs)
theorem tw_n_lmul (C : tw_Cx p s m args meth c mi) (Wd : tw_Wd cA D s) (hf : tw_rk mi ≤ R.frames ∧ 36 * tw_rk mi ≤ R.locals) (hcb : σ.2.2.2.2.1 ≤ R.cells + k0) (hsb : σ.2.2.2.2.2.1 ≤ R.slots + k1) (K : tw_K p l e R s m args below meth c Q base b0 L0 k0 k1 cA D xs σ.1 σ.2.1 σ.2.2.1 σ.2.2.2.1 σ.2.2.2.2) (hd : decode (tw_c mi) pc = .ok (.lmul, len)) (hx : tw_do mi pc L S h len (.lmul) = some (.inr (.inl σ))) : tw_K p l e R s m args below meth c Q base b0 L0 k0 k1 cA D xs mi pc L S h := by
  obtain ⟨hX, hB, hM, hrt, hown, hlk, hnm, hts⟩ := C
  simp only [tw_do] at hx
  replace hx := tw_gS.mp hx
  obtain ⟨hl, hx⟩ := hx
  obtain rfl := eq_of_beq hl
  replace hx := Option.bind_eq_some_iff.mp hx
  obtain ⟨⟨y, T⟩, hq, hx⟩ := hx
  obtain rfl := tw_pLS hq
  replace hx := Option.bind_eq_some_iff.mp hx
  obtain ⟨⟨x, T2⟩, hq2, hx⟩ := hx
  obtain rfl := tw_pLS hq2
  obtain rfl := tw_nxS hx
  intro H ls locs cells slots hR hL hlo hc hs
  exact lv_lmul hX hB hd (K H ls locs cells slots hR hL hlo hc hs)
theorem tw_n_lcmp (C : tw_Cx p s m args meth c mi) (Wd : tw_Wd cA D s) (hf : tw_rk mi ≤ R.frames ∧ 36 * tw_rk mi ≤ R.locals) (hcb : σ.2.2.2.2.1 ≤ R.cells + k0) (hsb : σ.2.2.2.2.2.1 ≤ R.slots + k1) (K : tw_K p l e R s m args below meth c Q base b0 L0 k0 k1 cA D xs σ.1 σ.2.1 σ.2.2.1 σ.2.2.2.1 σ.2.2.2.2) (hd : decode (tw_c mi) pc = .ok (.lcmp, len)) (hx : tw_do mi pc L S h len (.lcmp) = some (.inr (.inl σ))) : tw_K p l e R s m args below meth c Q base b0 L0 k0 k1 cA D xs mi pc L S h := by
  obtain ⟨hX, hB, hM, hrt, hown, hlk, hnm, hts⟩ := C
  simp only [tw_do] at hx
  replace hx := tw_gS.mp hx
  obtain ⟨hl, hx⟩ := hx
  obtain rfl := eq_of_beq hl
  replace hx := Option.bind_eq_some_iff.mp hx
  obtain ⟨⟨y, T⟩, hq, hx⟩ := hx
  obtain rfl := tw_pLS hq
  replace hx := Option.bind_eq_some_iff.mp hx
  obtain ⟨⟨x, T2⟩, hq2, hx⟩ := hx
  obtain rfl := tw_pLS hq2
  obtain rfl := tw_nxS hx
  intro H ls locs cells slots hR hL hlo hc hs
  exact W.lcmp hX hB hd (K H ls locs cells slots hR hL hlo hc hs)
theorem tw_n_ldiv (C : tw_Cx p s m args meth c mi) (Wd : tw_Wd cA D s) (hf : tw_rk mi ≤ R.frames ∧ 36 * tw_rk mi ≤ R.locals) (hcb : σ.2.2.2.2.1 ≤ R.cells + k0) (hsb : σ.2.2.2.2.2.1 ≤ R.slots + k1) (K : tw_K p l e R s m args below meth c Q base b0 L0 k0 k1 cA D xs σ.1 σ.2.1 σ.2.2.1 σ.2.2.2.1 σ.2.2.2.2) (hd : decode (tw_c mi) pc = .ok (.ldiv, len)) (hx : tw_do mi pc L S h len (.ldiv) = some (.inr (.inl σ))) : tw_K p l e R s m args below meth c Q base b0 L0 k0 k1 cA D xs mi pc L S h := by
  obtain ⟨hX, hB, hM, hrt, hown, hlk, hnm, hts⟩ := C
  simp only [tw_do] at hx
  replace hx := tw_gS.mp hx
  obtain ⟨hl, hx⟩ := hx
  obtain rfl := eq_of_beq hl
  replace hx := Option.bind_eq_some_iff.mp hx
  obtain ⟨⟨y, T⟩, hq, hx⟩ := hx
  obtain rfl := tw_pLS hq
  replace hx := Option.bind_eq_some_iff.mp hx
  obtain ⟨⟨x, T2⟩, hq2, hx⟩ := hx
  obtain rfl := tw_pLS hq2
  replace hx := tw_gS.mp hx
  obtain ⟨hz, hx⟩ := hx
  obtain rfl := tw_nxS hx
  intro H ls locs cells slots hR hL hlo hc hs
  exact lv_ldiv hX hB hd (of_decide_eq_true hz) (K H ls locs cells slots hR hL hlo hc hs)
theorem tw_n_lrem (C : tw_Cx p s m args meth c mi) (Wd : tw_Wd cA D s) (hf : tw_rk mi ≤ R.frames ∧ 36 * tw_rk mi ≤ R.locals) (hcb : σ.2.2.2.2.1 ≤ R.cells + k0) (hsb : σ.2.2.2.2.2.1 ≤ R.slots + k1) (K : tw_K p l e R s m args below meth c Q base b0 L0 k0 k1 cA D xs σ.1 σ.2.1 σ.2.2.1 σ.2.2.2.1 σ.2.2.2.2) (hd : decode (tw_c mi) pc = .ok (.lrem, len)) (hx : tw_do mi pc L S h len (.lrem) = some (.inr (.inl σ))) : tw_K p l e R s m args below meth c Q base b0 L0 k0 k1 cA D xs mi pc L S h := by
  obtain ⟨hX, hB, hM, hrt, hown, hlk, hnm, hts⟩ := C
  simp only [tw_do] at hx
  replace hx := tw_gS.mp hx
  obtain ⟨hl, hx⟩ := hx
  obtain rfl := eq_of_beq hl
  replace hx := Option.bind_eq_some_iff.mp hx
  obtain ⟨⟨y, T⟩, hq, hx⟩ := hx
  obtain rfl := tw_pLS hq
  replace hx := Option.bind_eq_some_iff.mp hx
  obtain ⟨⟨x, T2⟩, hq2, hx⟩ := hx
  obtain rfl := tw_pLS hq2
  replace hx := tw_gS.mp hx
  obtain ⟨hz, hx⟩ := hx
  obtain rfl := tw_nxS hx
  intro H ls locs cells slots hR hL hlo hc hs
  exact lv_lrem hX hB hd (of_decide_eq_true hz) (K H ls locs cells slots hR hL hlo hc hs)
theorem tw_n_i2l (C : tw_Cx p s m args meth c mi) (Wd : tw_Wd cA D s) (hf : tw_rk mi ≤ R.frames ∧ 36 * tw_rk mi ≤ R.locals) (hcb : σ.2.2.2.2.1 ≤ R.cells + k0) (hsb : σ.2.2.2.2.2.1 ≤ R.slots + k1) (K : tw_K p l e R s m args below meth c Q base b0 L0 k0 k1 cA D xs σ.1 σ.2.1 σ.2.2.1 σ.2.2.2.1 σ.2.2.2.2) (hd : decode (tw_c mi) pc = .ok (.i2l, len)) (hx : tw_do mi pc L S h len (.i2l) = some (.inr (.inl σ))) : tw_K p l e R s m args below meth c Q base b0 L0 k0 k1 cA D xs mi pc L S h := by
  obtain ⟨hX, hB, hM, hrt, hown, hlk, hnm, hts⟩ := C
  simp only [tw_do] at hx
  replace hx := tw_gS.mp hx
  obtain ⟨hl, hx⟩ := hx
  obtain rfl := eq_of_beq hl
  replace hx := Option.bind_eq_some_iff.mp hx
  obtain ⟨⟨x, T⟩, hq, hx⟩ := hx
  obtain rfl := tw_pIS hq
  obtain rfl := tw_nxS hx
  intro H ls locs cells slots hR hL hlo hc hs
  exact lv_i2l hX hB hd rfl (K H ls locs cells slots hR hL hlo hc hs)
theorem tw_n_i2b (C : tw_Cx p s m args meth c mi) (Wd : tw_Wd cA D s) (hf : tw_rk mi ≤ R.frames ∧ 36 * tw_rk mi ≤ R.locals) (hcb : σ.2.2.2.2.1 ≤ R.cells + k0) (hsb : σ.2.2.2.2.2.1 ≤ R.slots + k1) (K : tw_K p l e R s m args below meth c Q base b0 L0 k0 k1 cA D xs σ.1 σ.2.1 σ.2.2.1 σ.2.2.2.1 σ.2.2.2.2) (hd : decode (tw_c mi) pc = .ok (.i2b, len)) (hx : tw_do mi pc L S h len (.i2b) = some (.inr (.inl σ))) : tw_K p l e R s m args below meth c Q base b0 L0 k0 k1 cA D xs mi pc L S h := by
  obtain ⟨hX, hB, hM, hrt, hown, hlk, hnm, hts⟩ := C
  simp only [tw_do] at hx
  replace hx := tw_gS.mp hx
  obtain ⟨hl, hx⟩ := hx
  obtain rfl := eq_of_beq hl
  replace hx := Option.bind_eq_some_iff.mp hx
  obtain ⟨⟨x, T⟩, hq, hx⟩ := hx
  obtain rfl := tw_pIS hq
  obtain rfl := tw_nxS hx
  intro H ls locs cells slots hR hL hlo hc hs
  exact lv_i2b hX hB hd rfl (K H ls locs cells slots hR hL hlo hc hs)
theorem tw_n_i2s (C : tw_Cx p s m args meth c mi) (Wd : tw_Wd cA D s) (hf : tw_rk mi ≤ R.frames ∧ 36 * tw_rk mi ≤ R.locals) (hcb : σ.2.2.2.2.1 ≤ R.cells + k0) (hsb : σ.2.2.2.2.2.1 ≤ R.slots + k1) (K : tw_K p l e R s m args below meth c Q base b0 L0 k0 k1 cA D xs σ.1 σ.2.1 σ.2.2.1 σ.2.2.2.1 σ.2.2.2.2) (hd : decode (tw_c mi) pc = .ok (.i2s, len)) (hx : tw_do mi pc L S h len (.i2s) = some (.inr (.inl σ))) : tw_K p l e R s m args below meth c Q base b0 L0 k0 k1 cA D xs mi pc L S h := by
  obtain ⟨hX, hB, hM, hrt, hown, hlk, hnm, hts⟩ := C
  simp only [tw_do] at hx
  replace hx := tw_gS.mp hx
  obtain ⟨hl, hx⟩ := hx
  obtain rfl := eq_of_beq hl
  replace hx := Option.bind_eq_some_iff.mp hx
  obtain ⟨⟨x, T⟩, hq, hx⟩ := hx
  obtain rfl := tw_pIS hq
  obtain rfl := tw_nxS hx
  intro H ls locs cells slots hR hL hlo hc hs
  exact lv_i2s hX hB hd rfl (K H ls locs cells slots hR hL hlo hc hs)
theorem tw_n_dup (C : tw_Cx p s m args meth c mi) (Wd : tw_Wd cA D s) (hf : tw_rk mi ≤ R.frames ∧ 36 * tw_rk mi ≤ R.locals) (hcb : σ.2.2.2.2.1 ≤ R.cells + k0) (hsb : σ.2.2.2.2.2.1 ≤ R.slots + k1) (K : tw_K p l e R s m args below meth c Q base b0 L0 k0 k1 cA D xs σ.1 σ.2.1 σ.2.2.1 σ.2.2.2.1 σ.2.2.2.2) (hd : decode (tw_c mi) pc = .ok (.dup, len)) (hx : tw_do mi pc L S h len (.dup) = some (.inr (.inl σ))) : tw_K p l e R s m args below meth c Q base b0 L0 k0 k1 cA D xs mi pc L S h := by
  obtain ⟨hX, hB, hM, hrt, hown, hlk, hnm, hts⟩ := C
  simp only [tw_do] at hx
  replace hx := tw_gS.mp hx
  obtain ⟨hl, hx⟩ := hx
  obtain rfl := eq_of_beq hl
  replace hx := Option.bind_eq_some_iff.mp hx
  obtain ⟨⟨x, T⟩, hq, hx⟩ := hx
  obtain rfl := tw_pVS hq
  replace hx := tw_gS.mp hx
  obtain ⟨hz, hx⟩ := hx
  obtain rfl := tw_nxS hx
  intro H ls locs cells slots hR hL hlo hc hs
  exact lv_dup hX hB hd (by rw [tw_v_cat]; exact of_decide_eq_true hz) (K H ls locs cells slots hR hL hlo hc hs)
theorem tw_n_dup_x1 (C : tw_Cx p s m args meth c mi) (Wd : tw_Wd cA D s) (hf : tw_rk mi ≤ R.frames ∧ 36 * tw_rk mi ≤ R.locals) (hcb : σ.2.2.2.2.1 ≤ R.cells + k0) (hsb : σ.2.2.2.2.2.1 ≤ R.slots + k1) (K : tw_K p l e R s m args below meth c Q base b0 L0 k0 k1 cA D xs σ.1 σ.2.1 σ.2.2.1 σ.2.2.2.1 σ.2.2.2.2) (hd : decode (tw_c mi) pc = .ok (.dup_x1, len)) (hx : tw_do mi pc L S h len (.dup_x1) = some (.inr (.inl σ))) : tw_K p l e R s m args below meth c Q base b0 L0 k0 k1 cA D xs mi pc L S h := by
  obtain ⟨hX, hB, hM, hrt, hown, hlk, hnm, hts⟩ := C
  simp only [tw_do] at hx
  replace hx := tw_gS.mp hx
  obtain ⟨hl, hx⟩ := hx
  obtain rfl := eq_of_beq hl
  replace hx := Option.bind_eq_some_iff.mp hx
  obtain ⟨⟨y, T⟩, hq, hx⟩ := hx
  obtain rfl := tw_pVS hq
  replace hx := Option.bind_eq_some_iff.mp hx
  obtain ⟨⟨x, T2⟩, hq2, hx⟩ := hx
  obtain rfl := tw_pVS hq2
  replace hx := tw_gS.mp hx
  obtain ⟨hz, hx⟩ := hx
  simp only [Bool.and_eq_true, decide_eq_true_eq] at hz
  obtain rfl := tw_nxS hx
  intro H ls locs cells slots hR hL hlo hc hs
  exact lv_dup_x1 hX hB hd (by rw [tw_v_cat]; exact hz.1) (by rw [tw_v_cat]; exact hz.2) (K H ls locs cells slots hR hL hlo hc hs)
theorem tw_n_dup2 (C : tw_Cx p s m args meth c mi) (Wd : tw_Wd cA D s) (hf : tw_rk mi ≤ R.frames ∧ 36 * tw_rk mi ≤ R.locals) (hcb : σ.2.2.2.2.1 ≤ R.cells + k0) (hsb : σ.2.2.2.2.2.1 ≤ R.slots + k1) (K : tw_K p l e R s m args below meth c Q base b0 L0 k0 k1 cA D xs σ.1 σ.2.1 σ.2.2.1 σ.2.2.2.1 σ.2.2.2.2) (hd : decode (tw_c mi) pc = .ok (.dup2, len)) (hx : tw_do mi pc L S h len (.dup2) = some (.inr (.inl σ))) : tw_K p l e R s m args below meth c Q base b0 L0 k0 k1 cA D xs mi pc L S h := by
  obtain ⟨hX, hB, hM, hrt, hown, hlk, hnm, hts⟩ := C
  simp only [tw_do] at hx
  replace hx := tw_gS.mp hx
  obtain ⟨hl, hx⟩ := hx
  obtain rfl := eq_of_beq hl
  replace hx := Option.bind_eq_some_iff.mp hx
  obtain ⟨⟨y, T⟩, hq, hx⟩ := hx
  obtain rfl := tw_pVS hq
  replace hx := Option.bind_eq_some_iff.mp hx
  obtain ⟨⟨x, T2⟩, hq2, hx⟩ := hx
  obtain rfl := tw_pVS hq2
  replace hx := tw_gS.mp hx
  obtain ⟨hz, hx⟩ := hx
  simp only [Bool.and_eq_true, decide_eq_true_eq] at hz
  obtain rfl := tw_nxS hx
  intro H ls locs cells slots hR hL hlo hc hs
  exact lv_dup2_11 hX hB hd (by rw [tw_v_cat]; exact hz.1) (by rw [tw_v_cat]; exact hz.2) (K H ls locs cells slots hR hL hlo hc hs)
theorem tw_n_ifc {cnd : Jvm.ClassFile.Cond} {off : Int} (C : tw_Cx p s m args meth c mi) (Wd : tw_Wd cA D s) (hf : tw_rk mi ≤ R.frames ∧ 36 * tw_rk mi ≤ R.locals) (hcb : σ.2.2.2.2.1 ≤ R.cells + k0) (hsb : σ.2.2.2.2.2.1 ≤ R.slots + k1) (K : tw_K p l e R s m args below meth c Q base b0 L0 k0 k1 cA D xs σ.1 σ.2.1 σ.2.2.1 σ.2.2.2.1 σ.2.2.2.2) (hd : decode (tw_c mi) pc = .ok (.ifCond cnd off, len)) (hx : tw_do mi pc L S h len (.ifCond cnd off) = some (.inr (.inl σ))) : tw_K p l e R s m args below meth c Q base b0 L0 k0 k1 cA D xs mi pc L S h := by
  obtain ⟨hX, hB, hM, hrt, hown, hlk, hnm, hts⟩ := C
  simp only [tw_do] at hx
  replace hx := tw_gS.mp hx
  obtain ⟨hl, hx⟩ := hx
  obtain rfl := eq_of_beq hl
  replace hx := Option.bind_eq_some_iff.mp hx
  obtain ⟨⟨x, T⟩, hq, hx⟩ := hx
  obtain rfl := tw_pIS hq
  replace hx := tw_toS hx
  obtain ⟨t, ht, hx⟩ := hx
  intro H ls locs cells slots hR hL hlo hc hs
  cases cnd
  · refine lv_if_eq hX hB hd ht (fun q => ?_) (fun q => ?_)
    · rw [if_pos (by simpa [tw_cmp] using q)] at hx
      obtain rfl := tw_nxS hx
      exact K H ls locs cells slots hR hL hlo hc hs
    · rw [if_neg (by simpa [tw_cmp] using q)] at hx
      obtain rfl := tw_nxS hx
      exact K H ls locs cells slots hR hL hlo hc hs
  · refine lv_if_ne hX hB hd ht (fun q => ?_) (fun q => ?_)
    · rw [if_pos (by simpa [tw_cmp] using q)] at hx
      obtain rfl := tw_nxS hx
      exact K H ls locs cells slots hR hL hlo hc hs
    · rw [if_neg (by simpa [tw_cmp] using q)] at hx
      obtain rfl := tw_nxS hx
      exact K H ls locs cells slots hR hL hlo hc hs
  · refine lv_if_lt hX hB hd ht (fun q => ?_) (fun q => ?_)
    · rw [if_pos (by simpa [tw_cmp] using q)] at hx
      obtain rfl := tw_nxS hx
      exact K H ls locs cells slots hR hL hlo hc hs
    · rw [if_neg (by simpa [tw_cmp] using q)] at hx
      obtain rfl := tw_nxS hx
      exact K H ls locs cells slots hR hL hlo hc hs
  · refine lv_if_ge hX hB hd ht (fun q => ?_) (fun q => ?_)
    · rw [if_pos (by simpa [tw_cmp] using q)] at hx
      obtain rfl := tw_nxS hx
      exact K H ls locs cells slots hR hL hlo hc hs
    · rw [if_neg (by simpa [tw_cmp] using q)] at hx
      obtain rfl := tw_nxS hx
      exact K H ls locs cells slots hR hL hlo hc hs
  · refine lv_if_gt hX hB hd ht (fun q => ?_) (fun q => ?_)
    · rw [if_pos (by simpa [tw_cmp] using q)] at hx
      obtain rfl := tw_nxS hx
      exact K H ls locs cells slots hR hL hlo hc hs
    · rw [if_neg (by simpa [tw_cmp] using q)] at hx
      obtain rfl := tw_nxS hx
      exact K H ls locs cells slots hR hL hlo hc hs
  · refine lv_if_le hX hB hd ht (fun q => ?_) (fun q => ?_)
    · rw [if_pos (by simpa [tw_cmp] using q)] at hx
      obtain rfl := tw_nxS hx
      exact K H ls locs cells slots hR hL hlo hc hs
    · rw [if_neg (by simpa [tw_cmp] using q)] at hx
      obtain rfl := tw_nxS hx
      exact K H ls locs cells slots hR hL hlo hc hs
theorem tw_n_ificmp {cnd : Jvm.ClassFile.Cond} {off : Int} (C : tw_Cx p s m args meth c mi) (Wd : tw_Wd cA D s) (hf : tw_rk mi ≤ R.frames ∧ 36 * tw_rk mi ≤ R.locals) (hcb : σ.2.2.2.2.1 ≤ R.cells + k0) (hsb : σ.2.2.2.2.2.1 ≤ R.slots + k1) (K : tw_K p l e R s m args below meth c Q base b0 L0 k0 k1 cA D xs σ.1 σ.2.1 σ.2.2.1 σ.2.2.2.1 σ.2.2.2.2) (hd : decode (tw_c mi) pc = .ok (.if_icmp cnd off, len)) (hx : tw_do mi pc L S h len (.if_icmp cnd off) = some (.inr (.inl σ))) : tw_K p l e R s m args below meth c Q base b0 L0 k0 k1 cA D xs mi pc L S h := by
  obtain ⟨hX, hB, hM, hrt, hown, hlk, hnm, hts⟩ := C
  simp only [tw_do] at hx
  replace hx := tw_gS.mp hx
  obtain ⟨hl, hx⟩ := hx
  obtain rfl := eq_of_beq hl
  replace hx := Option.bind_eq_some_iff.mp hx
  obtain ⟨⟨y, T⟩, hq, hx⟩ := hx
  obtain rfl := tw_pIS hq
  replace hx := Option.bind_eq_some_iff.mp hx
  obtain ⟨⟨x, T2⟩, hq2, hx⟩ := hx
  obtain rfl := tw_pIS hq2
  replace hx := tw_toS hx
  obtain ⟨t, ht, hx⟩ := hx
  intro H ls locs cells slots hR hL hlo hc hs
  cases cnd
  · refine lv_icmp_eq hX hB hd ht (fun q => ?_) (fun q => ?_)
    · rw [if_pos (by simpa [tw_cmp] using q)] at hx
      obtain rfl := tw_nxS hx
      exact K H ls locs cells slots hR hL hlo hc hs
    · rw [if_neg (by simpa [tw_cmp] using q)] at hx
      obtain rfl := tw_nxS hx
      exact K H ls locs cells slots hR hL hlo hc hs
  · refine lv_icmp_ne hX hB hd ht (fun q => ?_) (fun q => ?_)
    · rw [if_pos (by simpa [tw_cmp] using q)] at hx
      obtain rfl := tw_nxS hx
      exact K H ls locs cells slots hR hL hlo hc hs
    · rw [if_neg (by simpa [tw_cmp] using q)] at hx
      obtain rfl := tw_nxS hx
      exact K H ls locs cells slots hR hL hlo hc hs
  · refine lv_icmp_lt hX hB hd ht (fun q => ?_) (fun q => ?_)
    · rw [if_pos (by simpa [tw_cmp] using q)] at hx
      obtain rfl := tw_nxS hx
      exact K H ls locs cells slots hR hL hlo hc hs
    · rw [if_neg (by simpa [tw_cmp] using q)] at hx
      obtain rfl := tw_nxS hx
      exact K H ls locs cells slots hR hL hlo hc hs
  · refine lv_icmp_ge hX hB hd ht (fun q => ?_) (fun q => ?_)
    · rw [if_pos (by simpa [tw_cmp] using q)] at hx
      obtain rfl := tw_nxS hx
      exact K H ls locs cells slots hR hL hlo hc hs
    · rw [if_neg (by simpa [tw_cmp] using q)] at hx
      obtain rfl := tw_nxS hx
      exact K H ls locs cells slots hR hL hlo hc hs
  · refine lv_icmp_gt hX hB hd ht (fun q => ?_) (fun q => ?_)
    · rw [if_pos (by simpa [tw_cmp] using q)] at hx
      obtain rfl := tw_nxS hx
      exact K H ls locs cells slots hR hL hlo hc hs
    · rw [if_neg (by simpa [tw_cmp] using q)] at hx
      obtain rfl := tw_nxS hx
      exact K H ls locs cells slots hR hL hlo hc hs
  · refine lv_icmp_le hX hB hd ht (fun q => ?_) (fun q => ?_)
    · rw [if_pos (by simpa [tw_cmp] using q)] at hx
      obtain rfl := tw_nxS hx
      exact K H ls locs cells slots hR hL hlo hc hs
    · rw [if_neg (by simpa [tw_cmp] using q)] at hx
      obtain rfl := tw_nxS hx
      exact K H ls locs cells slots hR hL hlo hc hs
theorem tw_n_goto {off : Int} (C : tw_Cx p s m args meth c mi) (Wd : tw_Wd cA D s) (hf : tw_rk mi ≤ R.frames ∧ 36 * tw_rk mi ≤ R.locals) (hcb : σ.2.2.2.2.1 ≤ R.cells + k0) (hsb : σ.2.2.2.2.2.1 ≤ R.slots + k1) (K : tw_K p l e R s m args below meth c Q base b0 L0 k0 k1 cA D xs σ.1 σ.2.1 σ.2.2.1 σ.2.2.2.1 σ.2.2.2.2) (hd : decode (tw_c mi) pc = .ok (.goto off, len)) (hx : tw_do mi pc L S h len (.goto off) = some (.inr (.inl σ))) : tw_K p l e R s m args below meth c Q base b0 L0 k0 k1 cA D xs mi pc L S h := by
  obtain ⟨hX, hB, hM, hrt, hown, hlk, hnm, hts⟩ := C
  simp only [tw_do] at hx
  replace hx := tw_gS.mp hx
  obtain ⟨hl, hx⟩ := hx
  obtain rfl := eq_of_beq hl
  replace hx := tw_toS hx
  obtain ⟨t, ht, hx⟩ := hx
  obtain rfl := tw_nxS hx
  intro H ls locs cells slots hR hL hlo hc hs
  exact lv_goto hX hB hd ht (K H ls locs cells slots hR hL hlo hc hs)
theorem tw_n_ifnull {off : Int} (C : tw_Cx p s m args meth c mi) (Wd : tw_Wd cA D s) (hf : tw_rk mi ≤ R.frames ∧ 36 * tw_rk mi ≤ R.locals) (hcb : σ.2.2.2.2.1 ≤ R.cells + k0) (hsb : σ.2.2.2.2.2.1 ≤ R.slots + k1) (K : tw_K p l e R s m args below meth c Q base b0 L0 k0 k1 cA D xs σ.1 σ.2.1 σ.2.2.1 σ.2.2.2.1 σ.2.2.2.2) (hd : decode (tw_c mi) pc = .ok (.ifnull off, len)) (hx : tw_do mi pc L S h len (.ifnull off) = some (.inr (.inl σ))) : tw_K p l e R s m args below meth c Q base b0 L0 k0 k1 cA D xs mi pc L S h := by
  obtain ⟨hX, hB, hM, hrt, hown, hlk, hnm, hts⟩ := C
  simp only [tw_do] at hx
  replace hx := tw_gS.mp hx
  obtain ⟨hl, hx⟩ := hx
  obtain rfl := eq_of_beq hl
  replace hx := Option.bind_eq_some_iff.mp hx
  obtain ⟨⟨x, T⟩, hq, hx⟩ := hx
  obtain rfl := tw_pVS hq
  replace hx := Option.bind_eq_some_iff.mp hx
  obtain ⟨v, hv, hx⟩ := hx
  obtain ⟨he, hz⟩ := tw_asAS hv
  dsimp only at he
  subst he
  intro H ls locs cells slots hR hL hlo hc hs
  rcases hz with rfl | ⟨a, rfl⟩
  · rw [if_pos rfl] at hx
    replace hx := tw_toS hx
    obtain ⟨t, ht, hx⟩ := hx
    obtain rfl := tw_nxS hx
    exact lv_ifnullN hX hB hd ht (K H ls locs cells slots hR hL hlo hc hs)
  · rw [if_neg (fun q => by cases q)] at hx
    obtain rfl := tw_nxS hx
    exact lv_ifnull hX hB hd (K H ls locs cells slots hR hL hlo hc hs)
theorem tw_n_ifnonnull {off : Int} (C : tw_Cx p s m args meth c mi) (Wd : tw_Wd cA D s) (hf : tw_rk mi ≤ R.frames ∧ 36 * tw_rk mi ≤ R.locals) (hcb : σ.2.2.2.2.1 ≤ R.cells + k0) (hsb : σ.2.2.2.2.2.1 ≤ R.slots + k1) (K : tw_K p l e R s m args below meth c Q base b0 L0 k0 k1 cA D xs σ.1 σ.2.1 σ.2.2.1 σ.2.2.2.1 σ.2.2.2.2) (hd : decode (tw_c mi) pc = .ok (.ifnonnull off, len)) (hx : tw_do mi pc L S h len (.ifnonnull off) = some (.inr (.inl σ))) : tw_K p l e R s m args below meth c Q base b0 L0 k0 k1 cA D xs mi pc L S h := by
  obtain ⟨hX, hB, hM, hrt, hown, hlk, hnm, hts⟩ := C
  simp only [tw_do] at hx
  replace hx := tw_gS.mp hx
  obtain ⟨hl, hx⟩ := hx
  obtain rfl := eq_of_beq hl
  replace hx := Option.bind_eq_some_iff.mp hx
  obtain ⟨⟨x, T⟩, hq, hx⟩ := hx
  obtain rfl := tw_pVS hq
  replace hx := Option.bind_eq_some_iff.mp hx
  obtain ⟨v, hv, hx⟩ := hx
  obtain ⟨he, hz⟩ := tw_asAS hv
  dsimp only at he
  subst he
  intro H ls locs cells slots hR hL hlo hc hs
  rcases hz with rfl | ⟨a, rfl⟩
  · rw [if_pos rfl] at hx
    obtain rfl := tw_nxS hx
    exact lv_ifnonnullN hX hB hd (K H ls locs cells slots hR hL hlo hc hs)
  · rw [if_neg (fun q => by cases q)] at hx
    replace hx := tw_toS hx
    obtain ⟨t, ht, hx⟩ := hx
    obtain rfl := tw_nxS hx
    exact lv_ifnonnull hX hB hd ht (K H ls locs cells slots hR hL hlo hc hs)
theorem tw_n_tsw {d lo hi : Int} {offs : Array Int} (C : tw_Cx p s m args meth c mi) (Wd : tw_Wd cA D s) (hf : tw_rk mi ≤ R.frames ∧ 36 * tw_rk mi ≤ R.locals) (hcb : σ.2.2.2.2.1 ≤ R.cells + k0) (hsb : σ.2.2.2.2.2.1 ≤ R.slots + k1) (K : tw_K p l e R s m args below meth c Q base b0 L0 k0 k1 cA D xs σ.1 σ.2.1 σ.2.2.1 σ.2.2.2.1 σ.2.2.2.2) (hd : decode (tw_c mi) pc = .ok (.tableswitch d lo hi offs, len)) (hx : tw_do mi pc L S h len (.tableswitch d lo hi offs) = some (.inr (.inl σ))) : tw_K p l e R s m args below meth c Q base b0 L0 k0 k1 cA D xs mi pc L S h := by
  obtain ⟨hX, hB, hM, hrt, hown, hlk, hnm, hts⟩ := C
  simp only [tw_do] at hx
  replace hx := Option.bind_eq_some_iff.mp hx
  obtain ⟨⟨x, T⟩, hq, hx⟩ := hx
  obtain rfl := tw_pIS hq
  intro H ls locs cells slots hR hL hlo hc hs
  by_cases hq2 : x.toInt < lo ∨ hi < x.toInt
  · rw [if_pos hq2] at hx
    replace hx := tw_toS hx
    obtain ⟨t, ht, hx⟩ := hx
    obtain rfl := tw_nxS hx
    exact lv_tableOut hX hB hd hq2 ht (K H ls locs cells slots hR hL hlo hc hs)
  · rw [if_neg hq2] at hx
    replace hx := Option.bind_eq_some_iff.mp hx
    obtain ⟨off, ho, hx⟩ := hx
    replace hx := tw_toS hx
    obtain ⟨t, ht, hx⟩ := hx
    obtain rfl := tw_nxS hx
    exact lv_tableIn hX hB hd (fun z => hq2 (Or.inl z)) (fun z => hq2 (Or.inr z)) ho ht (K H ls locs cells slots hR hL hlo hc hs)
theorem tw_n_lsw {d : Int} {ps : Array (Int × Int)} (C : tw_Cx p s m args meth c mi) (Wd : tw_Wd cA D s) (hf : tw_rk mi ≤ R.frames ∧ 36 * tw_rk mi ≤ R.locals) (hcb : σ.2.2.2.2.1 ≤ R.cells + k0) (hsb : σ.2.2.2.2.2.1 ≤ R.slots + k1) (K : tw_K p l e R s m args below meth c Q base b0 L0 k0 k1 cA D xs σ.1 σ.2.1 σ.2.2.1 σ.2.2.2.1 σ.2.2.2.2) (hd : decode (tw_c mi) pc = .ok (.lookupswitch d ps, len)) (hx : tw_do mi pc L S h len (.lookupswitch d ps) = some (.inr (.inl σ))) : tw_K p l e R s m args below meth c Q base b0 L0 k0 k1 cA D xs mi pc L S h := by
  obtain ⟨hX, hB, hM, hrt, hown, hlk, hnm, hts⟩ := C
  simp only [tw_do] at hx
  replace hx := tw_gS.mp hx
  obtain ⟨hp, hx⟩ := hx
  replace hx := Option.bind_eq_some_iff.mp hx
  obtain ⟨⟨x, T⟩, hq, hx⟩ := hx
  obtain rfl := tw_pIS hq
  replace hx := tw_toS hx
  obtain ⟨t, ht, hx⟩ := hx
  obtain rfl := tw_nxS hx
  intro H ls locs cells slots hR hL hlo hc hs
  exact lv_lookup hX hB hd hp rfl ht (K H ls locs cells slots hR hL hlo hc hs)
end TWN
