/-! sets as bits -/
theorem i31 {j : Nat} (hj : j < 32) : nI j &&& 31 = nI j := by
  have : ∀ j : Fin 32, nI j.1 &&& 31 = nI j.1 := by decide +kernel
  exact this ⟨j, hj⟩
theorem ism {j : Nat} (hj : j < 32) : ((nI j).toBitVec.smod 32).toNat = j := by
  have : ∀ j : Fin 32, ((nI j.1).toBitVec.smod 32).toNat = j.1 := by decide +kernel
  exact this ⟨j, hj⟩
theorem b1_of (y : BitVec 32) : (y &&& 1#32 = 0#32) = (y.getLsbD 0 = false) := by
  refine propext ⟨fun z => ?_, fun z => ?_⟩
  · have := congrArg (fun v : BitVec 32 => v.getLsbD 0) z
    simpa using this
  · ext i hi
    by_cases h0 : i = 0
    · subst h0; simp [BitVec.getLsbD_eq_getElem] at z ⊢; exact z
    · simp [h0]
theorem hasB_bit (g : Int32) {j : Nat} (hj : j < 32) : hasB g (nI j) = g.toBitVec.getLsbD j := by
  have e : (g >>> (nI j &&& 31)).toBitVec = g.toBitVec.sshiftRight j := by
    rw [i31 hj, Int32.toBitVec_shiftRight, BitVec.sshiftRight', ism hj]
  have e2 : ((g >>> (nI j &&& 31)) &&& 1 = 0) = ((g.toBitVec.sshiftRight j).getLsbD 0 = false) := by
    rw [← Int32.toBitVec_inj, Int32.toBitVec_and, e]
    exact b1_of _
  unfold hasB
  simp only [e2]
  rw [BitVec.getLsbD_sshiftRight]
  simp only [show j + 0 < 32 by omega, if_true, Nat.add_zero]
  cases g.toBitVec.getLsbD j <;> simp [hj, show ¬ 32 ≤ j by omega]
theorem bitI_bit {k : Nat} (hk : k < 32) (j : Nat) : (bitI (nI k)).toBitVec.getLsbD j = decide (j = k ∧ j < 32) := by
  have e : (bitI (nI k)).toBitVec = 1#32 <<< k := by
    unfold bitI
    rw [i31 hk, Int32.toBitVec_shiftLeft, BitVec.shiftLeft_eq', ism hk]
    rfl
  rw [e, BitVec.getLsbD_shiftLeft]
  by_cases q : j = k
  · subst q; simp [hk]
  · by_cases q2 : j < 32
    · by_cases q3 : j < k
      · simp [q, q2, q3]
      · simp [q, q2, q3]; omega
    · simp [q2, q]
theorem hasB_minus (g : Int32) {j k : Nat} (hj : j < 32) (hk : k < 32) : hasB (g &&& (bitI (nI k) ^^^ -1)) (nI j) = (hasB g (nI j) && ! decide (j = k)) := by
  rw [hasB_bit _ hj, hasB_bit _ hj, Int32.toBitVec_and, Int32.toBitVec_xor, BitVec.getLsbD_and, BitVec.getLsbD_xor, bitI_bit hk]
  have : (-1 : Int32).toBitVec.getLsbD j = true := by
    have : ∀ j : Fin 32, (-1 : Int32).toBitVec.getLsbD j.1 = true := by decide +kernel
    exact this ⟨j, hj⟩
  rw [this]
  by_cases q : j = k
  · subst q; simp [hj]
  · simp [q]
theorem minus_no {g : Int32} {k : Nat} (hk : k < 32) (hb : hasB g (nI k) = false) : g &&& (bitI (nI k) ^^^ -1) = g := by
  rw [← Int32.toBitVec_inj]
  apply BitVec.eq_of_getLsbD_eq
  intro j hj
  have h1 := hasB_minus g hj hk
  rw [hasB_bit _ hj, hasB_bit _ hj] at h1
  rw [h1]
  by_cases q : j = k
  · subst q; rw [hasB_bit _ hj] at hb; simp [hb]
  · simp [q]
/-! the first of a set by a key -/
def bsS (mem : Nat → Bool) (ky : Nat → Int) : Nat → Nat → Option Nat → Option Nat
  | _, 0, b => b
  | s, d + 1, b => bsS mem ky (s + 1) d (if mem s = true ∧ (∀ q, b = some q → ky s < ky q) then some s else b)
/-- r is the first of the members below n -/
def Fst (mem : Nat → Bool) (ky : Nat → Int) (n : Nat) (b : Option Nat) : Prop := (b = none → ∀ j, j < n → mem j = false) ∧ ∀ r, b = some r → r < n ∧ mem r = true ∧ ∀ j, j < n → mem j = true → j ≠ r → ky r < ky j ∨ (ky r = ky j ∧ r < j)
theorem bsS_fst {mem : Nat → Bool} {ky : Nat → Int} : ∀ (d s : Nat) (b : Option Nat), Fst mem ky s b → Fst mem ky (s + d) (bsS mem ky s d b) := by
  intro d
  induction d with
  | zero => intro s b h; exact h
  | succ d ih =>
    intro s b h
    rw [show s + (d + 1) = s + 1 + d by omega]
    refine ih (s + 1) _ ?_
    by_cases q : mem s = true
    · cases b with
      | none =>
        rw [if_pos ⟨q, fun _ z => by cases z⟩]
        refine ⟨fun z => (by cases z), fun r hr => ?_⟩
        cases hr
        refine ⟨by omega, q, fun j hj hm hne => ?_⟩
        have := h.1 rfl j (by omega)
        rw [this] at hm; cases hm
      | some p =>
        obtain ⟨p1, p2, p3⟩ := h.2 p rfl
        by_cases q2 : ky s < ky p
        · rw [if_pos ⟨q, fun _ z => by cases z; exact q2⟩]
          refine ⟨fun z => by (cases z), fun r hr => ?_⟩
          cases hr
          refine ⟨by omega, q, fun j hj hm hne => ?_⟩
          by_cases q3 : j = p
          · subst q3; exact Or.inl q2
          · rcases p3 j (by omega) hm q3 with z | ⟨z, _⟩
            · exact Or.inl (by omega)
            · exact Or.inl (by omega)
        · rw [if_neg (fun z => q2 (z.2 p rfl))]
          refine ⟨fun z => by (cases z), fun r hr => ?_⟩
          cases hr
          refine ⟨by omega, p2, fun j hj hm hne => ?_⟩
          by_cases q3 : j = s
          · subst q3
            by_cases q4 : ky p = ky j
            · exact Or.inr ⟨q4, p1⟩
            · exact Or.inl (by omega)
          · exact p3 j (by omega) hm hne
    · rw [if_neg (fun z => q z.1)]
      refine ⟨fun z j hj => ?_, fun r hr => ?_⟩
      · by_cases q3 : j = s
        · subst q3; simpa using q
        · exact h.1 z j (by omega)
      · obtain ⟨p1, p2, p3⟩ := h.2 r hr
        refine ⟨by omega, p2, fun j hj hm hne => ?_⟩
        by_cases q3 : j = s
        · subst q3; exact absurd hm q
        · exact p3 j (by omega) hm hne
theorem bs_fst (mem : Nat → Bool) (ky : Nat → Int) (n : Nat) : Fst mem ky n (bsS mem ky 0 n none) := by
  have := bsS_fst (mem := mem) (ky := ky) n 0 none ⟨fun _ j hj => absurd hj (by omega), fun r hr => by cases hr⟩
  rwa [Nat.zero_add] at this
theorem Fst.uniq {mem : Nat → Bool} {ky : Nat → Int} {n : Nat} {a b : Option Nat} (ha : Fst mem ky n a) (hb : Fst mem ky n b) : a = b := by
  cases a with
  | none =>
    cases b with
    | none => rfl
    | some r =>
      obtain ⟨r1, r2, _⟩ := hb.2 r rfl
      rw [ha.1 rfl r r1] at r2; cases r2
  | some p =>
    obtain ⟨p1, p2, p3⟩ := ha.2 p rfl
    cases b with
    | none => rw [hb.1 rfl p p1] at p2; cases p2
    | some r =>
      obtain ⟨r1, r2, r3⟩ := hb.2 r rfl
      by_cases q : p = r
      · rw [q]
      · rcases p3 r r1 r2 (fun z => q z.symm) with z | z <;> rcases r3 p p1 p2 q with y | y <;> omega
/-- the first of a set, if it is of a smaller one, is its first -/
theorem Fst.sub {m1 m2 : Nat → Bool} {ky : Nat → Int} {n r : Nat} (h : Fst m1 ky n (some r)) (hs : ∀ j, j < n → m2 j = true → m1 j = true) (hr : m2 r = true) : Fst m2 ky n (some r) := by
  obtain ⟨p1, p2, p3⟩ := h.2 r rfl
  refine ⟨fun z => (by cases z), fun q hq => ?_⟩
  cases hq
  exact ⟨p1, hr, fun j hj hm hne => p3 j hj (hs j hj hm) hne⟩
def kyF (ft : Nat → Int32) (law : Int32) (k : Nat) : Int := if law = 1 then -(ft k).toInt else if law = 2 then (ft k).toInt else 0
def encO (z : Int32) : Option Nat → Int32
  | none => z
  | some b => nI b
theorem ahd_ky {ft : Nat → Int32} {law : Int32} {k q : Nat} (hk : k < 8) (hq : q < 8) : (ahd ft law (nI k) (nI q) = true) = (kyF ft law k < kyF ft law q) := by
  unfold ahd kyF
  rw [atF_n hk (by decide), atF_n hq (by decide)]
  by_cases q1 : law = 1
  · simp only [q1, if_true, decide_eq_true_eq, Int32.lt_iff_toInt_lt]
    exact propext (by omega)
  · by_cases q2 : law = 2
    · simp only [q1, q2, if_true, if_false, decide_eq_true_eq, Int32.lt_iff_toInt_lt]
      simp
    · simp [q1, q2]
theorem nI_ne {b : Nat} {z : Int32} (hb : b < 2 ^ 31) (hz : z < 0) : ¬ nI b = z := fun e => by
  rw [← e] at hz
  exact nI_pos hb hz
theorem frS_bs {ft : Nat → Int32} {set law : Int32} : ∀ (d s : Nat) (b : Option Nat), s + d = 8 → (∀ q, b = some q → q < s) → frS ft set law s d (encO (-1) b) = encO (-1) (bsS (fun j => hasB set (nI j)) (kyF ft law) s d b) := by
  intro d
  induction d with
  | zero => intro s b _ _; rfl
  | succ d ih =>
    intro s b hd hb
    simp only [frS, bsS]
    have e : (hasB set (nI s) = true ∧ (encO (-1) b = -1 ∨ ahd ft law (nI s) (encO (-1) b) = true)) = (hasB set (nI s) = true ∧ (∀ q, b = some q → kyF ft law s < kyF ft law q)) := by
      cases b with
      | none => simp [encO]
      | some p =>
        have hp := hb p rfl
        have e1 : ¬ nI p = -1 := nI_ne (by omega) (by decide)
        simp only [encO, e1, false_or, ahd_ky (show s < 8 by omega) (show p < 8 by omega), Option.some.injEq, forall_eq']
    by_cases q : hasB set (nI s) = true ∧ (∀ q, b = some q → kyF ft law s < kyF ft law q)
    · rw [if_pos (e ▸ q), if_pos q]
      exact ih (s + 1) (some s) (by omega) (fun q hq => by cases hq; omega)
    · rw [if_neg (fun z => q (e ▸ z)), if_neg q]
      exact ih (s + 1) b (by omega) (fun q hq => by have := hb q hq; omega)
theorem frF_bs (ft : Nat → Int32) (set law : Int32) : frF ft set law = encO (-1) (bsS (fun j => hasB set (nI j)) (kyF ft law) 0 8 none) := frS_bs 8 0 none (by omega) (fun q hq => by cases hq)
