/-! fewest: the model -/
theorem goS_and {ft fo : Nat → Int32} {str : Int32} : ∀ (d p : Nat) (g t : Int32) (j : Nat), j < 32 → hasB (goS ft fo str p d g t) (nI j) = true → hasB g (nI j) = true := by
  intro d
  induction d with
  | zero => intro p g t j _ h; exact h
  | succ d ih =>
    intro p g t j hj h
    simp only [goS] at h
    split at h
    · have := ih _ _ _ j hj h
      rw [hasB_and _ _ hj] at this
      simp only [Bool.and_eq_true] at this
      exact this.1
    · exact h
theorem goS_mono {ft fo : Nat → Int32} {s1 s2 : Int32} (hs : ¬ s2 < s1) : ∀ (d p : Nat) (g t : Int32) (j : Nat), j < 32 → hasB (goS ft fo s1 p d g t) (nI j) = true → hasB (goS ft fo s2 p d g t) (nI j) = true := by
  intro d
  induction d with
  | zero => intro p g t j _ h; exact h
  | succ d ih =>
    intro p g t j hj h
    by_cases q : s2 < t
    · have q1 : s1 < t := by
        rw [Int32.lt_iff_toInt_lt] at q hs ⊢
        omega
      simp only [goS] at h ⊢
      rw [if_pos q1] at h
      rw [if_pos q]
      exact ih _ _ _ j hj h
    · have := goS_and _ _ _ _ j hj h
      simp only [goS]
      rw [if_neg q]
      exact this
theorem goF_mono {ft fo : Nat → Int32} {s1 s2 set : Int32} (hs : ¬ s2 < s1) {j : Nat} (hj : j < 32) : hasB (goF ft fo set s1) (nI j) = true → hasB (goF ft fo set s2) (nI j) = true := goS_mono hs _ _ _ _ j hj
/-- whether it goes in all hours -/
def dgS (p : Nat → Bool) : Nat → Nat → Bool
  | _, 0 => true
  | s, d + 1 => p s && dgS p (s + 1) d
theorem wkS_low {str : Int32 → Int32} : ∀ (d s : Nat) (acc : Int32), (∃ h, (wkS str s d acc = acc ∨ (s ≤ h ∧ h < s + d ∧ wkS str s d acc = str (nI h)))) ∧ ¬ acc < wkS str s d acc ∧ ∀ h, s ≤ h → h < s + d → ¬ str (nI h) < wkS str s d acc := by
  intro d
  induction d with
  | zero => intro s acc; exact ⟨⟨0, Or.inl rfl⟩, Int32.lt_irrefl, fun h h1 h2 => by omega⟩
  | succ d ih =>
    intro s acc
    simp only [wkS]
    obtain ⟨⟨x, hx⟩, h2, h3⟩ := ih (s + 1) (if str (nI s) < acc then str (nI s) else acc)
    refine ⟨?_, ?_, ?_⟩
    · rcases hx with hx | ⟨x1, x2, x3⟩
      · rw [hx]
        by_cases q : str (nI s) < acc
        · rw [if_pos q]; exact ⟨s, Or.inr ⟨by omega, by omega, rfl⟩⟩
        · rw [if_neg q]; exact ⟨0, Or.inl rfl⟩
      · exact ⟨x, Or.inr ⟨by omega, by omega, x3⟩⟩
    · intro z
      apply h2
      by_cases q : str (nI s) < acc
      · rw [if_pos q] at z ⊢; exact Int32.lt_trans q z
      · rw [if_neg q] at z ⊢; exact z
    · intro y y1 y2
      by_cases q : y = s
      · subst q
        intro z
        apply h2
        by_cases q : str (nI y) < acc
        · rw [if_pos q] at z ⊢; exact z
        · rw [if_neg q] at z ⊢
          rw [Int32.lt_iff_toInt_lt] at *
          omega
      · exact h3 y (by omega) (by omega)
theorem dgS_all {p : Nat → Bool} : ∀ (d s : Nat), dgS p s d = true ↔ ∀ h, s ≤ h → h < s + d → p h = true := by
  intro d
  induction d with
  | zero => intro s; exact ⟨fun _ h h1 h2 => by omega, fun _ => rfl⟩
  | succ d ih =>
    intro s
    simp only [dgS, Bool.and_eq_true, ih]
    refine ⟨fun z h h1 h2 => ?_, fun z => ⟨z s (by omega) (by omega), fun h h1 h2 => z h (by omega) (by omega)⟩⟩
    by_cases q : h = s
    · rw [q]; exact z.1
    · exact z.2 h (by omega) (by omega)
/-- it goes in all hours if it goes in the weakest -/
theorem dgS_wk {ft fo : Nat → Int32} {set : Int32} {str : Int32 → Int32} {a e : Nat} (ha : a ≤ e) {j : Nat} (hj : j < 32) : dgS (fun h => hasB (goF ft fo set (str (nI h))) (nI j)) a (e + 1 - a) = hasB (goF ft fo set (wkF str a e)) (nI j) := by
  have hw := wkS_low (str := str) (e - a) (a + 1) (str (nI a))
  obtain ⟨⟨x, hx⟩, h2, h3⟩ := hw
  have hd := dgS_all (p := fun h => hasB (goF ft fo set (str (nI h))) (nI j)) (e + 1 - a) a
  cases q : hasB (goF ft fo set (wkF str a e)) (nI j) with
  | true =>
    rw [hd]
    intro h h1 h4
    refine goF_mono (s1 := wkF str a e) ?_ hj q
    by_cases q2 : h = a
    · rw [q2]; exact h2
    · exact h3 h (by omega) (by omega)
  | false =>
    cases q3 : dgS (fun h => hasB (goF ft fo set (str (nI h))) (nI j)) a (e + 1 - a) with
    | false => rfl
    | true =>
      rw [hd] at q3
      rcases hx with hx | ⟨x1, x2, x3⟩
      · have h5 : hasB (goF ft fo set (str (nI a))) (nI j) = true := q3 a (by omega) (by omega)
        unfold wkF at q
        rw [hx, h5] at q
        exact q
      · have h5 : hasB (goF ft fo set (str (nI x))) (nI j) = true := q3 x (by omega) (by omega)
        unfold wkF at q
        rw [x3, h5] at q
        exact q
/-- the bits of a small set -/
def btS : Nat → Int32 → Int32 → Int32
  | 0, _, acc => acc
  | d + 1, x, acc => if 0 < x then btS d (x >>> 1) (acc + (x &&& 1)) else acc
theorem m_bits_run (h : tw_H) (x0 : Int32) : ∀ (d m : Nat) (acc : Int32), m < 2 ^ d → d ≤ 8 → tw_b 148 4 [.int x0, .int acc, .int (nI m)] [] h = some (some (.int (btS d (nI m) acc)), h) := by
  intro d
  induction d with
  | zero =>
    intro m acc hm _
    have : m = 0 := by omega
    subst this
    have e : ¬ (0 : Int32) < nI 0 := by decide
    rw [s148_4]
    simp [s148_0, s148_1, s148_2, s148_3, s148_5, s148_8, s148_9, s148_10, s148_11, s148_12, s148_13, s148_14, s148_15, s148_16, s148_17, s148_18, s148_21, s148_22, e, btS]
  | succ d ih =>
    intro m acc hm hd
    have h256 : m < 256 := Nat.lt_of_lt_of_le hm (Nat.pow_le_pow_right (by decide) hd)
    have hsh : nI m >>> (1 : Int32) = nI (m / 2) := by
      have : ∀ m : Fin 256, nI m.1 >>> (1 : Int32) = nI (m.1 / 2) := by decide +kernel
      exact this ⟨m, h256⟩
    have hsh2 : nI m >>> ((1 : Int32) &&& 31) = nI (m / 2) := hsh
    simp only [btS]
    rw [hsh, s148_4]
    by_cases q : 0 < nI m
    · rw [if_pos q, ← ih (m / 2) _ (by rw [Nat.pow_succ] at hm; omega) (by omega)]
      simp [s148_0, s148_1, s148_2, s148_3, s148_5, s148_8, s148_9, s148_10, s148_11, s148_12, s148_13, s148_14, s148_15, s148_16, s148_17, s148_18, s148_21, s148_22, q, hsh2, hsh]
    · rw [if_neg q]
      simp [s148_0, s148_1, s148_2, s148_3, s148_5, s148_8, s148_9, s148_10, s148_11, s148_12, s148_13, s148_14, s148_15, s148_16, s148_17, s148_18, s148_21, s148_22, q]
theorem m_bits (h : tw_H) {m : Nat} (hm : m < 256) : tw_b 148 0 [.int (nI m), tw_un, tw_un] [] h = some (some (.int (bcF (nI m))), h) := by
  have hl := m_bits_run h (nI m) 8 m 0 (by omega) (by decide)
  have e : btS 8 (nI m) 0 = bcF (nI m) := by
    have : ∀ m : Fin 256, btS 8 (nI m.1) 0 = bcF (nI m.1) := by decide +kernel
    exact this ⟨m, hm⟩
  rw [e] at hl
  simp [s148_0, s148_1, s148_2, s148_3, s148_5, s148_8, s148_9, s148_10, s148_11, s148_12, s148_13, s148_14, s148_15, s148_16, s148_17, s148_18, s148_21, s148_22, hl]
section M8
variable {h : tw_H} {fl tc hk lw st hg ra rt rw nr tr : Int32} {nw n : Nat} {tf kd wt f34 f35 f : Nat → Int32}
theorem m_does_loop (H : MZ h fl tc nw hk lw st hg ra rt rw n nr tr tf kd wt f34 f35) (h8 : nw ≤ 8) (hn : n ≤ 7) (hb : HB nw hk) (hT : Tid tc st) (k a : Int32) {e : Nat} (he : e < 60) : ∀ (d s : Nat) (b : Bool), s + d = e + 1 → tw_b 149 6 [.ref 27, .int k, .int a, .int (nI e), .int (tw_bi b), .int (nI s)] [] h = some (some (.int (tw_bi (b && dgS (fun hour => hasB (goM nw kd wt hg lw hk (strM tc tf n f34 f35 st (nI hour))) k) s d))), h) := by
  intro d
  induction d with
  | zero =>
    intro s b hd
    have e1 : nI e < nI s := nI_lt (by omega) (by omega)
    rw [s149_6]
    simp [s149_0, s149_1, s149_3, s149_4, s149_8, s149_9, s149_12, s149_14, s149_17, s149_18, s149_20, s149_23, s149_24, s149_27, s149_29, s149_32, s149_35, s149_37, e1, dgS, tw_z_bi]
  | succ d ih =>
    intro s b hd
    have e1 : ¬ nI e < nI s := nI_nlt (by omega) (by omega)
    have hgi := m_goIn H h8 hn hb hT.1 (nI s) (hT.2 s (by omega))
    simp only [dgS]
    rw [s149_6]
    cases b with
    | false => simp [s149_0, s149_1, s149_3, s149_4, s149_8, s149_9, s149_12, s149_14, s149_17, s149_18, s149_20, s149_23, s149_24, s149_27, s149_29, s149_32, s149_35, s149_37, e1, tw_bi_0, tw_z_bi]
    | true =>
      have i1 := ih (s + 1) (hasB (goM nw kd wt hg lw hk (strM tc tf n f34 f35 st (nI s))) k) (by omega)
      rw [Bool.true_and, ← i1]
      simp [s149_0, s149_1, s149_3, s149_4, s149_8, s149_9, s149_12, s149_14, s149_17, s149_18, s149_20, s149_23, s149_24, s149_27, s149_29, s149_32, s149_35, s149_37, e1, mco H.1, hgi, m_isIn, tw_bi_0, nI_1]
theorem m_doesGo (H : MZ h fl tc nw hk lw st hg ra rt rw n nr tr tf kd wt f34 f35) (h8 : nw ≤ 8) (hn : n ≤ 7) (hb : HB nw hk) (hT : Tid tc st) (k : Int32) {a e : Nat} (ha : a ≤ e) (he : e < 60) : tw_b 149 0 [.ref 27, .int k, .int (nI a), .int (nI e), tw_un, tw_un] [] h = some (some (.int (tw_bi (dgS (fun hour => hasB (goM nw kd wt hg lw hk (strM tc tf n f34 f35 st (nI hour))) k) a (e + 1 - a)))), h) := by
  have hl := m_does_loop H h8 hn hb hT k (nI a) he (e + 1 - a) a true (by omega)
  rw [tw_bi_t, Bool.true_and] at hl
  simp [s149_0, s149_1, s149_3, s149_4, s149_8, s149_9, s149_12, s149_14, s149_17, s149_18, s149_20, s149_23, s149_24, s149_27, s149_29, s149_32, s149_35, s149_37, hl]
end M8
