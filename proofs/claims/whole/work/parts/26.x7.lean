/-! what does not depend on the cells beyond the eighth -/
theorem atF_congr {f g : Nat → Int32} (h : ∀ j, j < 8 → f j = g j) (i : Int32) : atF 8 f i = atF 8 g i := by
  unfold atF
  by_cases q : tw_vi i 8 = true
  · rw [if_pos q, if_pos q]
    exact h _ (tw_viS q).2
  · rw [if_neg q, if_neg q]
theorem tkS_congr {f g : Nat → Int32} (h : ∀ j, j < 8 → f j = g j) (set : Int32) : ∀ (d s : Nat) (acc : Int32), s + d = 8 → tkS f set s d acc = tkS g set s d acc := by
  intro d
  induction d with
  | zero => intro s acc _; rfl
  | succ d ih =>
    intro s acc hd
    simp only [tkS]
    rw [h s (by omega)]
    exact ih _ _ (by omega)
theorem goS_congr {f g fo go : Nat → Int32} (h : ∀ j, j < 8 → f j = g j) (ho : ∀ j, j < 8 → fo j = go j) (str : Int32) : ∀ (d p : Nat) (w t : Int32), p + d = 8 → goS f fo str p d w t = goS g go str p d w t := by
  intro d
  induction d with
  | zero => intro p w t _; rfl
  | succ d ih =>
    intro p w t hd
    simp only [goS]
    rw [ho p (by omega), atF_congr h]
    split
    · exact ih _ _ _ (by omega)
    · rfl
theorem goF_congr {f g fo go : Nat → Int32} (h : ∀ j, j < 8 → f j = g j) (ho : ∀ j, j < 8 → fo j = go j) (set str : Int32) : goF f fo set str = goF g go set str := by
  unfold goF
  rw [tkS_congr h set 8 0 0 (by omega)]
  exact goS_congr h ho str 8 0 _ _ (by omega)
theorem spF_congr {f g fo go : Nat → Int32} (h : ∀ j, j < 8 → f j = g j) (ho : ∀ j, j < 8 → fo j = go j) (set str : Int32) : spF f fo set str = spF g go set str := by
  unfold spF
  rw [goF_congr h ho]
theorem ahd_congr {f g : Nat → Int32} (h : ∀ j, j < 8 → f j = g j) (law k q : Int32) : ahd f law k q = ahd g law k q := by
  unfold ahd
  rw [atF_congr h, atF_congr h]
theorem frS_congr {f g : Nat → Int32} (h : ∀ j, j < 8 → f j = g j) (set law : Int32) : ∀ (d s : Nat) (fst : Int32), frS f set law s d fst = frS g set law s d fst := by
  intro d
  induction d with
  | zero => intro s fst; rfl
  | succ d ih =>
    intro s fst
    simp only [frS]
    rw [ahd_congr h]
    exact ih _ _
theorem frF_congr {f g : Nat → Int32} (h : ∀ j, j < 8 → f j = g j) (set law : Int32) : frF f set law = frF g set law := frS_congr h set law 8 0 (-1)
theorem orS_congr {f g : Nat → Int32} (h : ∀ j, j < 8 → f j = g j) (law : Int32) : ∀ (d p : Nat) (w : Int32) (fo go : Nat → Int32), (∀ j, j < p → fo j = go j) → p + d = 8 → ∀ j, j < 8 → orS f law p d w fo j = orS g law p d w go j := by
  intro d
  induction d with
  | zero => intro p w fo go ho hd j hj; exact ho j (by omega)
  | succ d ih =>
    intro p w fo go ho hd j hj
    simp only [orS]
    rw [frF_congr h]
    refine ih (p + 1) _ _ _ (fun i hi => ?_) (by omega) j hj
    unfold upd
    by_cases q : i = p
    · simp [q]
    · simp [q, ho i (by omega)]
/-- the order in which works stop that take t, by a law -/
def odZ (t : Nat → Int32) (law : Int32) : Nat → Int32 := orF t law (fun _ => 0)
theorem orF_odZ {f t : Nat → Int32} (h : ∀ j, j < 8 → f j = t j) (law : Int32) (fo : Nat → Int32) : ∀ j, j < 8 → orF f law fo j = odZ t law j := orS_congr h law 8 0 255 fo _ (fun j hj => absurd hj (by omega)) (by omega)
theorem fset_lt {f g : Nat → Int32} {n j : Nat} (h : j < n) : fset f g n j = g j := by simp [fset, h]
theorem rdS_congr {f g rw rh ra : Nat → Int32} (h : ∀ j, j < 8 → f j = g j) (hour : Int32) : ∀ (d s : Nat), rdS f rw rh ra hour s d = rdS g rw rh ra hour s d := by
  intro d
  induction d with
  | zero => intro s; rfl
  | succ d ih =>
    intro s
    simp only [rdS]
    rw [atF_congr h, ih]
theorem addG_congr {f g : Nat → Int32} (h : ∀ j, j < 8 → f j = g j) (set : Int32) : ∀ j, j < 8 → fset f (addG set f) 8 j = fset g (addG set g) 8 j := fun j hj => by
  rw [fset_lt hj, fset_lt hj]
  unfold addG
  rw [h j hj]
theorem ftS_congr {stp : Int32 → Int32} {rw rh ra : Nat → Int32} {nr : Nat} : ∀ (d s : Nat) (f g : Nat → Int32), (∀ j, j < 8 → f j = g j) → ftS stp rw rh ra nr s d f = ftS stp rw rh ra nr s d g := by
  intro d
  induction d with
  | zero => intro s f g _; rfl
  | succ d ih =>
    intro s f g h
    simp only [ftS]
    rw [rdS_congr (addG_congr h _), ih (s + 1) _ _ (addG_congr h _)]
theorem ftS_stp {s1 s2 : Int32 → Int32} {rw rh ra : Nat → Int32} {nr : Nat} (hs : ∀ k : Nat, k < 60 → s1 (nI k) = s2 (nI k)) : ∀ (d s : Nat) (f : Nat → Int32), s + d = 60 → ftS s1 rw rh ra nr s d f = ftS s2 rw rh ra nr s d f := by
  intro d
  induction d with
  | zero => intro s f _; rfl
  | succ d ih =>
    intro s f hd
    simp only [ftS]
    rw [hs s (by omega), ih (s + 1) _ (by omega)]
/-- whether the readings are so -/
def ftZ (stp : Int32 → Int32) (rw rh ra : Nat → Int32) (nr : Nat) : Bool := ftS stp rw rh ra nr 0 60 (fun _ => 0)
theorem ftF_ftZ (stp : Int32 → Int32) (rw rh ra : Nat → Int32) (nr : Nat) (f : Nat → Int32) : ftF stp rw rh ra nr f = ftZ stp rw rh ra nr := ftS_congr 60 0 _ _ (fun j hj => fset_lt hj)
theorem alS_congr {f g : Nat → Int32} (h : ∀ j, j < 8 → f j = g j) (set : Int32) : ∀ (d s : Nat) (fst : Int32), s + d = 8 → alS f set s d fst = alS g set s d fst := by
  intro d
  induction d with
  | zero => intro s fst _; rfl
  | succ d ih =>
    intro s fst hd
    simp only [alS]
    rw [h s (by omega), atF_congr h, ih _ _ (by omega), ih _ _ (by omega)]
theorem akS_congr {stp : Int32 → Int32} {hk hour : Int32} : ∀ (d s : Nat) (f g : Nat → Int32), (∀ j, j < 8 → f j = g j) → akS stp hk hour s d f = akS stp hk hour s d g := by
  intro d
  induction d with
  | zero => intro s f g _; rfl
  | succ d ih =>
    intro s f g h
    simp only [akS]
    rw [alS_congr (addG_congr h _) hk 8 0 (-1) (by omega), ih (s + 1) _ _ (addG_congr h _)]
/-! which works there are -/
def wkV (g : Nat → Option Nat) (k : Int32) : Value := if tw_vi k 8 = true then tw_rf (g k.toNatClampNeg) else .null
theorem x_workOf {h : tw_H} {wc hk lw st fl : Int32} {g : Nat → Option Nat} (hX : h.2.2 1 = some (xC wc hk lw st fl)) (hW : h.2.2 18 = some (rC 2 8 g)) (k : Int32) : tw_b 38 0 [.ref 1, .int k] [] h = some (some (wkV g k), h) := by
  have e : tw_vi k 8 = true ↔ (¬ k < 0 ∧ k < 8) := tw_vi_iff (i := k) (n := 8) (by decide)
  have hal : tw_al h 18 = some (.int 8) := by simp only [tw_al, hW]; rfl
  unfold wkV
  by_cases q : k < 0
  · have e1 : ¬ tw_vi k 8 = true := fun z => (e.mp z).1 q
    simp [s38_0, s38_1, s38_4, s38_5, s38_6, s38_9, s38_10, s38_13, s38_14, s38_17, s38_18, s38_19, s38_22, s38_23, s38_23n, q, e1]
  · by_cases q2 : k < 8
    · have e1 : tw_vi k 8 = true := e.mpr ⟨q, q2⟩
      have haa : tw_aa h 18 k = some (tw_rf (g k.toNatClampNeg)) := by simp [tw_aa, hW, e1]
      rw [if_pos e1]
      cases hg : g k.toNatClampNeg with
      | none => rw [hg] at haa; simp [s38_0, s38_1, s38_4, s38_5, s38_6, s38_9, s38_10, s38_13, s38_14, s38_17, s38_18, s38_19, s38_22, s38_23, s38_23n, q, tw_gf, hX, hal, haa, q2, tw_rf]
      | some a => rw [hg] at haa; simp [s38_0, s38_1, s38_4, s38_5, s38_6, s38_9, s38_10, s38_13, s38_14, s38_17, s38_18, s38_19, s38_22, s38_23, s38_23n, q, tw_gf, hX, hal, haa, q2, tw_rf]
    · have e1 : ¬ tw_vi k 8 = true := fun z => q2 (e.mp z).2
      rw [if_neg e1]
      simp [s38_0, s38_1, s38_4, s38_5, s38_6, s38_9, s38_10, s38_13, s38_14, s38_17, s38_18, s38_19, s38_22, s38_23, s38_23n, q, tw_gf, hX, hal, q2]
