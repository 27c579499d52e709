/-! how a town is read -/
def dgL (x : Int32) : Nat → Nat → Option Nat
  | 0, _ => none
  | d + 1, s => if x = nI (48 + s) then some s else dgL x d (s + 1)
theorem dgL_in {x : Int32} : ∀ (d s v : Nat), dgL x d s = some v → s ≤ v ∧ v < s + d ∧ x = nI (48 + v) := by
  intro d
  induction d with
  | zero => intro s v h; cases h
  | succ d ih =>
    intro s v h
    simp only [dgL] at h
    by_cases q : x = nI (48 + s)
    · rw [if_pos q] at h
      cases h
      exact ⟨Nat.le_refl _, by omega, q⟩
    · rw [if_neg q] at h
      obtain ⟨h1, h2, h3⟩ := ih (s + 1) v h
      exact ⟨by omega, by omega, h3⟩
theorem dgL_no {x : Int32} : ∀ (d s : Nat), dgL x d s = none → ∀ v, s ≤ v → v < s + d → ¬ x = nI (48 + v) := by
  intro d
  induction d with
  | zero => intro s _ v h1 h2; omega
  | succ d ih =>
    intro s h v h1 h2
    simp only [dgL] at h
    by_cases q : x = nI (48 + s)
    · rw [if_pos q] at h; cases h
    · rw [if_neg q] at h
      by_cases q2 : v = s
      · rw [q2]; exact q
      · exact ih (s + 1) h v (by omega) (by omega)
/-- one tide -/
def unT (K : Nat → Int32) (p : Nat) : Option Int32 × Nat := if K p = 44 then (match dgL (K (p + 1)) 6 0 with
  | none => (none, p + 1)
  | some a => (match dgL (K (p + 2)) 10 0 with
    | none => (none, p + 2)
    | some b => (some (10 * nI a + nI b), p + 3))) else (none, p)
def kdL (x : Int32) : Option Int32 := if x = 119 then some 0 else if x = 98 then some 1 else if x = 115 then some 2 else none
/-- one work -/
def unW (K : Nat → Int32) (p : Nat) : Option (Int32 × Int32) × Nat := if K p = 59 then (match kdL (K (p + 1)) with
  | none => (none, p + 1)
  | some a => (match dgL (K (p + 2)) 9 1 with
    | none => (none, p + 2)
    | some b => (some (a, nI b), p + 3))) else (none, p)
/-- the tides: where it fails, or how many, where, which -/
def tdP (K : Nat → Int32) : Nat → Nat → Nat → (Nat → Int32) → (Nat ⊕ (Nat × Nat × (Nat → Int32)))
  | 0, t, p, A => .inr (t, p, A)
  | d + 1, t, p, A => if t = 0 ∨ K p = 44 then (match unT K p with
    | (none, q) => .inl q
    | (some v, q) => tdP K d (t + 1) q (upd A t v)) else .inr (t, p, A)
def wkP (K : Nat → Int32) (n : Nat) : Nat → Nat → Nat → (Nat → Int32) → (Nat → Int32) → (Nat ⊕ (Nat × (Nat → Int32) × (Nat → Int32)))
  | 0, w, p, B, C => if p < n then .inl p else .inr (w, B, C)
  | d + 1, w, p, B, C => if w = 0 ∨ p < n then (match unW K p with
    | (none, q) => .inl q
    | (some v, q) => wkP K n d (w + 1) q (upd B w v.1) (upd C w v.2)) else .inr (w, B, C)
/-- the code at a place, if there is one -/
def cdK (f : Nat → Int32) (i n : Nat) : Nat → Int32 := fun p => if p < n then f (i + p) else -9
theorem cdK_lt {f : Nat → Int32} {i n p : Nat} {c : Int32} (h : cdK f i n p = c) (hc : c ≠ -9) : p < n := by
  unfold cdK at h
  by_cases q : p < n
  · exact q
  · rw [if_neg q] at h; exact absurd h.symm hc
/-- where a unit ends -/
theorem unT_le {f : Nat → Int32} {i n p : Nat} (hp : p ≤ n) : (unT (cdK f i n) p).2 ≤ n := by
  unfold unT
  by_cases q : cdK f i n p = 44
  · have h1 := cdK_lt q (by decide)
    rw [if_pos q]
    cases e : dgL (cdK f i n (p + 1)) 6 0 with
    | none => exact h1
    | some a =>
      have h2 := cdK_lt (dgL_in _ _ _ e).2.2 (nI_ne (by have := (dgL_in _ _ _ e).2.1; omega) (by decide))
      simp only
      cases e2 : dgL (cdK f i n (p + 2)) 10 0 with
      | none => exact h2
      | some b =>
        have h3 := cdK_lt (dgL_in _ _ _ e2).2.2 (nI_ne (by have := (dgL_in _ _ _ e2).2.1; omega) (by decide))
        exact h3
  · rw [if_neg q]; exact hp
theorem kdL_in {x a : Int32} (h : kdL x = some a) : x ≠ -9 ∧ (a = 0 ∨ a = 1 ∨ a = 2) := by
  unfold kdL at h
  by_cases q : x = 119
  · rw [if_pos q] at h; cases h; exact ⟨by rw [q]; decide, Or.inl rfl⟩
  · rw [if_neg q] at h
    by_cases q : x = 98
    · rw [if_pos q] at h; cases h; exact ⟨by rw [q]; decide, Or.inr (Or.inl rfl)⟩
    · rw [if_neg q] at h
      by_cases q : x = 115
      · rw [if_pos q] at h; cases h; exact ⟨by rw [q]; decide, Or.inr (Or.inr rfl)⟩
      · rw [if_neg q] at h; cases h
theorem unW_le {f : Nat → Int32} {i n p : Nat} (hp : p ≤ n) : (unW (cdK f i n) p).2 ≤ n := by
  unfold unW
  by_cases q : cdK f i n p = 59
  · have h1 := cdK_lt q (by decide)
    rw [if_pos q]
    cases e : kdL (cdK f i n (p + 1)) with
    | none => exact h1
    | some a =>
      have h2 := cdK_lt rfl (kdL_in e).1
      simp only
      cases e2 : dgL (cdK f i n (p + 2)) 9 1 with
      | none => exact h2
      | some b =>
        have h3 := cdK_lt (dgL_in _ _ _ e2).2.2 (nI_ne (by have := (dgL_in _ _ _ e2).2.1; omega) (by decide))
        exact h3
  · rw [if_neg q]; exact hp
theorem unW_kd {K : Nat → Int32} {p q : Nat} {v : Int32 × Int32} (h : unW K p = (some v, q)) : v.1 = 0 ∨ v.1 = 1 ∨ v.1 = 2 := by
  unfold unW at h
  by_cases z : K p = 59
  · rw [if_pos z] at h
    cases e : kdL (K (p + 1)) with
    | none => rw [e] at h; cases h
    | some a =>
      rw [e] at h
      simp only at h
      cases e2 : dgL (K (p + 2)) 9 1 with
      | none => rw [e2] at h; cases h
      | some b => rw [e2] at h; cases h; exact (kdL_in e).2
  · rw [if_neg z] at h; cases h
theorem tdP_le {f : Nat → Int32} {i n : Nat} : ∀ (d t p : Nat) (A : Nat → Int32), p ≤ n → (∀ q, tdP (cdK f i n) d t p A = .inl q → q ≤ n) ∧ (∀ r, tdP (cdK f i n) d t p A = .inr r → t ≤ r.1 ∧ r.1 ≤ t + d ∧ r.2.1 ≤ n ∧ (0 < d → 0 < r.1)) := by
  intro d
  induction d with
  | zero => intro t p A hp; exact ⟨fun q h => by (cases h), fun r h => by cases h; exact ⟨Nat.le_refl _, by omega, hp, by omega⟩⟩
  | succ d ih =>
    intro t p A hp
    simp only [tdP]
    by_cases q : t = 0 ∨ cdK f i n p = 44
    · rw [if_pos q]
      have hl := unT_le (f := f) (i := i) hp
      cases e : unT (cdK f i n) p with
      | mk a b =>
        rw [e] at hl
        cases a with
        | none => exact ⟨fun q h => by cases h; exact hl, fun r h => by (cases h)⟩
        | some v =>
          simp only
          obtain ⟨h1, h2⟩ := ih (t + 1) b (upd A t v) hl
          refine ⟨h1, fun r h => ?_⟩
          obtain ⟨k1, k2, k3, _⟩ := h2 r h
          exact ⟨by omega, by omega, k3, fun _ => by omega⟩
    · rw [if_neg q]
      refine ⟨fun q h => by (cases h), fun r h => ?_⟩
      cases h
      exact ⟨Nat.le_refl _, by omega, hp, fun _ => by simp only; omega⟩
/-- two readings of the same tides into different arrays -/
theorem tdP_two {K : Nat → Int32} : ∀ (d t p : Nat) (A A' : Nat → Int32), (∀ j, j < t → A j = A' j) → (∀ q, tdP K d t p A = .inl q → tdP K d t p A' = .inl q) ∧ (∀ r, tdP K d t p A = .inr r → ∃ r3, tdP K d t p A' = .inr (r.1, r.2.1, r3) ∧ ∀ j, j < r.1 → r.2.2 j = r3 j) := by
  intro d
  induction d with
  | zero => intro t p A A' h; exact ⟨fun q h => by (cases h), fun r hr => by cases hr; exact ⟨A', rfl, h⟩⟩
  | succ d ih =>
    intro t p A A' h
    simp only [tdP]
    by_cases q : t = 0 ∨ K p = 44
    · rw [if_pos q, if_pos q]
      cases e : unT K p with
      | mk a b =>
        cases a with
        | none => exact ⟨fun q h => h, fun r h => by (cases h)⟩
        | some v =>
          refine ih (t + 1) b (upd A t v) (upd A' t v) (fun j hj => ?_)
          unfold upd
          by_cases z : j = t
          · rw [if_pos z, if_pos z]
          · rw [if_neg z, if_neg z]; exact h j (by omega)
    · rw [if_neg q, if_neg q]
      refine ⟨fun q h => by (cases h), fun r hr => ?_⟩
      cases hr
      exact ⟨A', rfl, h⟩
theorem wkP_two {K : Nat → Int32} {n : Nat} : ∀ (d w p : Nat) (B B' C C' : Nat → Int32), (∀ j, j < w → B j = B' j ∧ C j = C' j ∧ (B j = 0 ∨ B j = 1 ∨ B j = 2)) → (∀ q, wkP K n d w p B C = .inl q → wkP K n d w p B' C' = .inl q) ∧ (∀ r, wkP K n d w p B C = .inr r → w ≤ r.1 ∧ r.1 ≤ w + d ∧ (0 < d → 0 < r.1) ∧ ∃ r2 r3, wkP K n d w p B' C' = .inr (r.1, r2, r3) ∧ ∀ j, j < r.1 → r.2.1 j = r2 j ∧ r.2.2 j = r3 j ∧ (r.2.1 j = 0 ∨ r.2.1 j = 1 ∨ r.2.1 j = 2)) := by
  intro d
  induction d with
  | zero =>
    intro w p B B' C C' h
    simp only [wkP]
    by_cases q : p < n
    · rw [if_pos q, if_pos q]; exact ⟨fun q h => h, fun r hr => by (cases hr)⟩
    · rw [if_neg q, if_neg q]
      refine ⟨fun q h => by (cases h), fun r hr => ?_⟩
      cases hr
      exact ⟨Nat.le_refl _, by omega, by omega, B', C', rfl, h⟩
  | succ d ih =>
    intro w p B B' C C' h
    simp only [wkP]
    by_cases q : w = 0 ∨ p < n
    · rw [if_pos q, if_pos q]
      cases e : unW K p with
      | mk a b =>
        cases a with
        | none => exact ⟨fun q h => h, fun r h => by (cases h)⟩
        | some v =>
          obtain ⟨h1, h2⟩ := ih (w + 1) b (upd B w v.1) (upd B' w v.1) (upd C w v.2) (upd C' w v.2) (fun j hj => by
            unfold upd
            by_cases z : j = w
            · rw [if_pos z, if_pos z, if_pos z, if_pos z]; exact ⟨rfl, rfl, unW_kd e⟩
            · rw [if_neg z, if_neg z, if_neg z, if_neg z]; exact h j (by omega))
          refine ⟨h1, fun r hr => ?_⟩
          obtain ⟨k1, k2, _, k4⟩ := h2 r hr
          exact ⟨by omega, by omega, fun _ => by omega, k4⟩
    · rw [if_neg q, if_neg q]
      refine ⟨fun q h => by (cases h), fun r hr => ?_⟩
      cases hr
      exact ⟨Nat.le_refl _, by omega, fun _ => by simp only; omega, B', C', rfl, h⟩
