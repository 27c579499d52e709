/-! the two states together -/
def WK (h : tw_H) (nw : Nat) (g : Nat → Option Nat) (kd wt : Nat → Int32) : Prop := ∀ k, k < 8 → (k < nw ∧ ∃ a, g k = some a ∧ 43 < a ∧ a < h.1 ∧ h.2.2 a = some (oC (clsK (kd k)) [.int (nI k), .int (wt k)]) ∧ (kd k = 0 ∨ kd k = 1 ∨ kd k = 2)) ∨ (¬ k < nw ∧ g k = none)
def TxI (h : tw_H) : Prop := ∃ (ti wo pl fr si : Int32) (co : Value) (A B C : Nat → Int32), h.2.2 3 = some (oC 7 [.ref 4, .ref 5, .ref 6, .int ti, .int wo, .int pl, co, .int fr, .int si]) ∧ h.2.2 4 = some (iC 6 A) ∧ h.2.2 5 = some (iC 8 B) ∧ h.2.2 6 = some (iC 8 C)
def XI (h : tw_H) (nw nt s0 ns nr : Nat) (hk lw fl tr : Int32) (tfx sw sh sa rw rh ra ft fo kd wt : Nat → Int32) (g : Nat → Option Nat) : Prop := 44 ≤ h.1 ∧ h.2.2 1 = some (xC (nI nw) hk lw (nI s0) fl) ∧ XS h (nI nt) tfx ns sw sh sa ∧ XR h nr rw rh ra ∧ XK h 19 20 21 ft fo ∧ (∃ a b, XK h 22 23 24 a b) ∧ (∃ f, XL h f) ∧ h.2.2 18 = some (rC 2 8 g) ∧ WK h nw g kd wt ∧ h.2.2 7 = some (oC 8 [.int tr]) ∧ TxI h
def SI (h : tw_H) (sz ln sf : Nat → Int32) : Prop := ∃ (gs : Nat → Option Nat) (ra rb nn : Nat → Nat), h.2.2 2 = some (rC 1 4 gs) ∧ ∀ k, k < 4 → (gs k = none ∧ sz k = -1) ∨ (gs k = some (ra k) ∧ 43 < ra k ∧ ra k < h.1 ∧ 43 < rb k ∧ rb k < h.1 ∧ h.2.2 (ra k) = some (oC 3 [.int (ln k), .ref (rb k)]) ∧ nn k ≤ 60 ∧ sz k = nI (nn k) ∧ (∃ f, h.2.2 (rb k) = some (iC (nn k) f) ∧ ∀ j, j < nn k → f j = sf (60 * k + j)) ∧ ∀ k', k' < 4 → k' ≠ k → gs k' ≠ none → rb k' ≠ rb k)
def MI (h : tw_H) (nw nt s0 ns nr : Nat) (hk lw fl tr : Int32) (tfm f34 f35 rw rh ra kd wt sz ln sf : Nat → Int32) : Prop := (∃ r1 r2 r3, MZ h fl (nI nt) nw hk lw (nI s0) (-9) r1 r2 r3 ns (nI nr) tr tfm kd wt f34 f35) ∧ MR h nr rw rh ra ∧ (∃ hd, MH h sz ln sf hd) ∧ (∃ f, h.2.2 36 = some (iC 8 f)) ∧ ∃ A B C, h.2.2 31 = some (iC 6 A) ∧ h.2.2 32 = some (iC 8 B) ∧ h.2.2 33 = some (iC 8 C)
def RI (nw nt s0 ns nr : Nat) (hk lw : Int32) (tfx tfm sh sa f34 f35 ft fo kd wt : Nat → Int32) : Prop := nw ≤ 8 ∧ nt ≤ 6 ∧ (nw = 0 ↔ nt = 0) ∧ (0 < nw → s0 < nt) ∧ Wn nw hk ∧ (∀ j, j < nt → tfx j = tfm j) ∧ (∀ j, j < ns → sh j = f34 j ∧ sa j = f35 j) ∧ (0 < nw → ∀ j, j < 8 → ft j = aT (TT nw kd wt) (-9) j ∧ fo j = odZ (aT (TT nw kd wt) (-9)) lw j)
def Inv (h : tw_H) : Prop := ∃ (nw nt s0 ns nr : Nat) (hk lw fl tr : Int32) (tfx tfm sw sh sa f34 f35 rw rh ra ft fo kd wt sz ln sf : Nat → Int32) (g : Nat → Option Nat), XI h nw nt s0 ns nr hk lw fl tr tfx sw sh sa rw rh ra ft fo kd wt g ∧ SI h sz ln sf ∧ MI h nw nt s0 ns nr hk lw fl tr tfm f34 f35 rw rh ra kd wt sz ln sf ∧ RI nw nt s0 ns nr hk lw tfx tfm sh sa f34 f35 ft fo kd wt
section I1
variable {h h' : tw_H} {nw nt s0 ns nr : Nat} {hk lw fl tr : Int32} {tfx tfm sw sh sa f34 f35 rw rh ra ft fo kd wt sz ln sf : Nat → Int32} {g : Nat → Option Nat}
theorem WK.congr (H : WK h nw g kd wt) (e1 : h.1 ≤ h'.1) (e : ∀ a, 43 < a → a < h.1 → h'.2.2 a = h.2.2 a) : WK h' nw g kd wt := fun k hk => by
  rcases H k hk with ⟨y1, a, y2, y3, y4, y5, y6⟩ | z
  · exact Or.inl ⟨y1, a, y2, y3, by omega, by rw [e a y3 y4]; exact y5, y6⟩
  · exact Or.inr z
/-- the class's state stays if its cells stay -/
theorem XI.congr (H : XI h nw nt s0 ns nr hk lw fl tr tfx sw sh sa rw rh ra ft fo kd wt g) (e1 : h.1 = h'.1) (e : ∀ a, a < 27 ∨ 43 < a → h'.2.2 a = h.2.2 a) : XI h' nw nt s0 ns nr hk lw fl tr tfx sw sh sa rw rh ra ft fo kd wt g := by
  obtain ⟨x1, x2, x3, x4, x5, ⟨oa, ob, x6⟩, ⟨lf, x7⟩, x8, x9, x10, ti, wo, pl, fr, si, co, A, B, C, x11⟩ := H
  refine ⟨by omega, by rw [e 1 (by omega)]; exact x2, ?_, ?_, ?_, ⟨oa, ob, ?_⟩, ⟨lf, ?_⟩, by rw [e 18 (by omega)]; exact x8, x9.congr (by omega) (fun a h1 _ => e a (by omega)), by rw [e 7 (by omega)]; exact x10, ti, wo, pl, fr, si, co, A, B, C, ?_⟩
  · unfold XS at x3 ⊢; rw [e 8 (by omega), e 13 (by omega), e 9 (by omega), e 10 (by omega), e 11 (by omega), e 12 (by omega)]; exact x3
  · unfold XR at x4 ⊢; rw [e 14 (by omega), e 15 (by omega), e 16 (by omega), e 17 (by omega)]; exact x4
  · unfold XK at x5 ⊢; rw [e 19 (by omega), e 20 (by omega), e 21 (by omega)]; exact x5
  · unfold XK at x6 ⊢; rw [e 22 (by omega), e 23 (by omega), e 24 (by omega)]; exact x6
  · unfold XL at x7 ⊢; rw [e 25 (by omega), e 26 (by omega)]; exact x7
  · rw [e 3 (by omega), e 4 (by omega), e 5 (by omega), e 6 (by omega)]; exact x11
theorem SI.congr (H : SI h sz ln sf) (e1 : h.1 ≤ h'.1) (e2 : h'.2.2 2 = h.2.2 2) (e : ∀ a, 43 < a → a < h.1 → h'.2.2 a = h.2.2 a) : SI h' sz ln sf := by
  obtain ⟨gs, ra, rb, nn, s1, s2⟩ := H
  refine ⟨gs, ra, rb, nn, by rw [e2]; exact s1, fun k hk => ?_⟩
  rcases s2 k hk with z | ⟨y1, y2, y3, y4, y5, y6, y7, y8, ⟨f, y9, y10⟩, y11⟩
  · exact Or.inl z
  · exact Or.inr ⟨y1, y2, by omega, y4, by omega, by rw [e _ y2 y3]; exact y6, y7, y8, ⟨f, by rw [e _ y4 y5]; exact y9, y10⟩, y11⟩
theorem MI.congr (H : MI h nw nt s0 ns nr hk lw fl tr tfm f34 f35 rw rh ra kd wt sz ln sf) (e : ∀ a, 26 < a → a < 44 → h'.2.2 a = h.2.2 a) : MI h' nw nt s0 ns nr hk lw fl tr tfm f34 f35 rw rh ra kd wt sz ln sf := by
  obtain ⟨⟨r1, r2, r3, m1⟩, m2, ⟨hd, m3⟩, ⟨f, m4⟩, A, B, C, m5⟩ := H
  refine ⟨⟨r1, r2, r3, ?_⟩, ?_, ⟨hd, ?_⟩, ⟨f, by rw [e 36 (by omega) (by omega)]; exact m4⟩, A, B, C, ?_⟩
  · unfold MZ at m1 ⊢; rw [e 27 (by omega) (by omega), e 28 (by omega) (by omega), e 29 (by omega) (by omega), e 30 (by omega) (by omega), e 34 (by omega) (by omega), e 35 (by omega) (by omega)]; exact m1
  · unfold MR at m2 ⊢; rw [e 37 (by omega) (by omega), e 38 (by omega) (by omega), e 39 (by omega) (by omega)]; exact m2
  · unfold MH at m3 ⊢; rw [e 40 (by omega) (by omega), e 41 (by omega) (by omega), e 42 (by omega) (by omega), e 43 (by omega) (by omega)]; exact m3
  · rw [e 31 (by omega) (by omega), e 32 (by omega) (by omega), e 33 (by omega) (by omega)]; exact m5
/-- which works there are -/
theorem WK.null (H : WK h nw g kd wt) (h8 : nw ≤ 8) (k : Int32) : wkV g k = .null ↔ ¬ (¬ k < 0 ∧ k < nI nw) := by
  unfold wkV
  by_cases q : tw_vi k 8 = true
  · rw [if_pos q]
    obtain ⟨q1, q2⟩ := (tw_vi_iff (by decide)).mp q
    obtain ⟨j, hj, rfl⟩ := nI_of q1
    have j8 : j < 8 := (nI_ltI hj (by decide)).mp q2
    rw [nI_clamp hj]
    rcases H j j8 with ⟨y1, a, y2, _⟩ | ⟨y1, y2⟩
    · rw [y2]
      refine ⟨fun z => (by cases z), fun z => absurd ⟨q1, nI_lt y1 (by omega)⟩ z⟩
    · rw [y2]
      refine ⟨fun _ z => y1 ((nI_ltI hj (by omega)).mp z.2), fun _ => rfl⟩
  · rw [if_neg q]
    refine ⟨fun _ z => q ((tw_vi_iff (by decide)).mpr ⟨z.1, ?_⟩), fun _ => rfl⟩
    obtain ⟨j, hj, rfl⟩ := nI_of z.1
    have := (nI_ltI hj (by omega)).mp z.2
    exact nI_lt (by omega) (by decide)
theorem WK.ref (H : WK h nw g kd wt) (h8 : nw ≤ 8) {j : Nat} (hj : j < nw) : ∃ a : Nat, wkV g (nI j) = .ref a ∧ 43 < a ∧ a < h.1 ∧ h.2.2 a = some (oC (clsK (kd j)) [.int (nI j), .int (wt j)]) ∧ (kd j = 0 ∨ kd j = 1 ∨ kd j = 2) := by
  rcases H j (by omega) with ⟨y1, a, y2, y3⟩ | ⟨y1, _⟩
  · refine ⟨a, ?_, y3⟩
    unfold wkV
    rw [if_pos (tw_vi_n (by omega) (by decide)), nI_clamp (by omega), y2]
    rfl
  · exact absurd hj y1
theorem WK.isref (H : WK h nw g kd wt) (h8 : nw ≤ 8) {k : Int32} (hk : ¬ k < 0 ∧ k < nI nw) : ∃ j, j < nw ∧ k = nI j := by
  obtain ⟨j, hj, rfl⟩ := nI_of hk.1
  exact ⟨j, (nI_ltI hj (by omega)).mp hk.2, rfl⟩
theorem WK.at (H : WK h nw g kd wt) (h8 : nw ≤ 8) : WkAt h g (TT nw kd wt) := fun k hk => by
  rcases H k hk with ⟨y1, a, y2, y3, y4, y5, y6⟩ | ⟨y1, y2⟩
  · refine Or.inr ⟨a, clsK (kd k), nI k, wt k, y2, y5, by omega, clsK_or _, ?_⟩
    unfold TT; rw [if_pos y1, clsK_tk]
  · refine Or.inl ⟨y2, ?_⟩
    unfold TT; rw [if_neg y1]
/-- hours -/
theorem hour_of {x : Int32} (h : ¬ x < 0 ∧ x < 60) : ∃ s, s < 60 ∧ x = nI s := by
  obtain ⟨j, hj, rfl⟩ := nI_of h.1
  exact ⟨j, (nI_ltI hj (by decide)).mp h.2, rfl⟩
/-- a change of the class's scratch -/
theorem XI.scr (H : XI h nw nt s0 ns nr hk lw fl tr tfx sw sh sa rw rh ra ft fo kd wt g) (e1 : h'.1 = h.1) (e : ∀ a, a ≠ 23 ∧ a ≠ 24 ∧ a ≠ 26 → h'.2.2 a = h.2.2 a) {a b f : Nat → Int32} (e23 : h'.2.2 23 = some (iC 8 a)) (e24 : h'.2.2 24 = some (iC 8 b)) (e26 : h'.2.2 26 = some (iC 8 f)) : XI h' nw nt s0 ns nr hk lw fl tr tfx sw sh sa rw rh ra ft fo kd wt g := by
  obtain ⟨x1, x2, x3, x4, x5, ⟨oa, ob, x6⟩, ⟨lf, x7⟩, x8, x9, x10, ti, wo, pl, fr, si, co, A, B, C, x11⟩ := H
  refine ⟨by omega, by rw [e 1 (by omega)]; exact x2, ?_, ?_, ?_, ⟨a, b, ?_, e23, e24⟩, ⟨f, ?_, e26⟩, by rw [e 18 (by omega)]; exact x8, x9.congr (by omega) (fun a h1 _ => e a (by omega)), by rw [e 7 (by omega)]; exact x10, ti, wo, pl, fr, si, co, A, B, C, ?_⟩
  · unfold XS at x3 ⊢; rw [e 8 (by omega), e 13 (by omega), e 9 (by omega), e 10 (by omega), e 11 (by omega), e 12 (by omega)]; exact x3
  · unfold XR at x4 ⊢; rw [e 14 (by omega), e 15 (by omega), e 16 (by omega), e 17 (by omega)]; exact x4
  · unfold XK at x5 ⊢; rw [e 19 (by omega), e 20 (by omega), e 21 (by omega)]; exact x5
  · rw [e 22 (by omega)]; exact x6.1
  · rw [e 25 (by omega)]; exact x7.1
  · rw [e 3 (by omega), e 4 (by omega), e 5 (by omega), e 6 (by omega)]; exact x11
/-- a change of the model's scratch -/
theorem MI.scr (H : MI h nw nt s0 ns nr hk lw fl tr tfm f34 f35 rw rh ra kd wt sz ln sf) (e : ∀ a, a ≠ 36 → h'.2.2 a = h.2.2 a) {f : Nat → Int32} (e36 : h'.2.2 36 = some (iC 8 f)) : MI h' nw nt s0 ns nr hk lw fl tr tfm f34 f35 rw rh ra kd wt sz ln sf := by
  obtain ⟨⟨r1, r2, r3, m1⟩, m2, ⟨hd, m3⟩, _, A, B, C, m5⟩ := H
  refine ⟨⟨r1, r2, r3, ?_⟩, ?_, ⟨hd, ?_⟩, ⟨f, e36⟩, A, B, C, ?_⟩
  · unfold MZ at m1 ⊢; rw [e 27 (by omega), e 28 (by omega), e 29 (by omega), e 30 (by omega), e 34 (by omega), e 35 (by omega)]; exact m1
  · unfold MR at m2 ⊢; rw [e 37 (by omega), e 38 (by omega), e 39 (by omega)]; exact m2
  · unfold MH at m3 ⊢; rw [e 40 (by omega), e 41 (by omega), e 42 (by omega), e 43 (by omega)]; exact m3
  · rw [e 31 (by omega), e 32 (by omega), e 33 (by omega)]; exact m5
end I1
/-- what a call of both must give -/
def Two (h : tw_H) (mx : Nat) (Lx : List Value) (mm : Nat) (Lm : List Value) : Prop := ∃ v h1 h2, tw_b mx 0 Lx [] h = some (some v, h1) ∧ tw_b mm 0 Lm [] h1 = some (some v, h2) ∧ Inv h2 ∧ h2.1 ≤ h.1 + 10 ∧ h2.2.1 ≤ h.2.1 + 100
