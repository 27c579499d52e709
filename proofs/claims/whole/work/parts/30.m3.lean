/-! which works go -/
theorem tkS_acc (ft : Nat → Int32) (set : Int32) : ∀ (d s : Nat) (acc x : Int32), tkS ft set s d (acc + x) = tkS ft set s d acc + x := by
  intro d
  induction d with
  | zero => intro s acc x; rfl
  | succ d ih =>
    intro s acc x
    simp only [tkS]
    rw [show acc + x + (if hasB set (nI s) = true then ft s else 0) = (acc + if hasB set (nI s) = true then ft s else 0) + x by ac_rfl]
    exact ih _ _ _
theorem tkS_out (ft : Nat → Int32) (g : Int32) {k : Nat} (hk : k < 8) : ∀ (d s : Nat) (acc : Int32), s + d = 8 → k < s → tkS ft (g &&& (bitI (nI k) ^^^ -1)) s d acc = tkS ft g s d acc := by
  intro d
  induction d with
  | zero => intro s acc _ _; rfl
  | succ d ih =>
    intro s acc hd hks
    simp only [tkS]
    rw [hasB_minus g (show s < 32 by omega) (show k < 32 by omega)]
    rw [show decide (s = k) = false from decide_eq_false (by omega)]
    simp only [Bool.not_false, Bool.and_true]
    exact ih _ _ (by omega) (by omega)
theorem tkS_minus (ft : Nat → Int32) (g : Int32) {k : Nat} (hk : k < 8) (hm : hasB g (nI k) = true) : ∀ (d s : Nat) (acc : Int32), s + d = 8 → s ≤ k → tkS ft (g &&& (bitI (nI k) ^^^ -1)) s d acc + ft k = tkS ft g s d acc := by
  intro d
  induction d with
  | zero => intro s acc h1 h2; omega
  | succ d ih =>
    intro s acc hd hks
    simp only [tkS]
    rw [hasB_minus g (show s < 32 by omega) (show k < 32 by omega)]
    by_cases q : s = k
    · subst q
      rw [hm]
      simp only [decide_true, Bool.not_true, Bool.and_false, if_true]
      rw [tkS_out ft g hk d (s + 1) _ (by omega) (by omega), ← tkS_acc]
      simp
    · rw [show decide (s = k) = false from decide_eq_false q]
      simp only [Bool.not_false, Bool.and_true]
      exact ih _ _ (by omega) (by omega)
theorem tkS_none {ft : Nat → Int32} {g : Int32} : ∀ (d s : Nat) (acc : Int32), s + d = 8 → (∀ j, s ≤ j → j < 8 → hasB g (nI j) = false) → tkS ft g s d acc = acc := by
  intro d
  induction d with
  | zero => intro s acc _ _; rfl
  | succ d ih =>
    intro s acc hd h
    simp only [tkS]
    rw [h s (by omega) (by omega), ih (s + 1) _ (by omega) (fun j h1 h2 => h j (by omega) h2)]
    simp
/-- how many members -/
def cnt (g : Int32) : Nat → Nat → Nat
  | _, 0 => 0
  | s, d + 1 => (if hasB g (nI s) = true then 1 else 0) + cnt g (s + 1) d
theorem cnt_out (g : Int32) {k : Nat} (hk : k < 8) : ∀ (d s : Nat), s + d = 8 → k < s → cnt (g &&& (bitI (nI k) ^^^ -1)) s d = cnt g s d := by
  intro d
  induction d with
  | zero => intro s _ _; rfl
  | succ d ih =>
    intro s hd hks
    simp only [cnt]
    rw [hasB_minus g (show s < 32 by omega) (show k < 32 by omega)]
    rw [show decide (s = k) = false from decide_eq_false (by omega)]
    simp only [Bool.not_false, Bool.and_true]
    rw [ih _ (by omega) (by omega)]
theorem cnt_minus (g : Int32) {k : Nat} (hk : k < 8) (hm : hasB g (nI k) = true) : ∀ (d s : Nat), s + d = 8 → s ≤ k → cnt (g &&& (bitI (nI k) ^^^ -1)) s d + 1 = cnt g s d := by
  intro d
  induction d with
  | zero => intro s h1 h2; omega
  | succ d ih =>
    intro s hd hks
    simp only [cnt]
    rw [hasB_minus g (show s < 32 by omega) (show k < 32 by omega)]
    by_cases q : s = k
    · subst q
      rw [hm]
      simp only [decide_true, Bool.not_true, Bool.and_false, if_true]
      rw [cnt_out g hk d (s + 1) (by omega) (by omega)]
      simp; omega
    · rw [show decide (s = k) = false from decide_eq_false q]
      simp only [Bool.not_false, Bool.and_true]
      have := ih (s + 1) (by omega) (by omega)
      omega
theorem cnt_zero {g : Int32} : ∀ (d s : Nat), s + d = 8 → cnt g s d = 0 → ∀ j, s ≤ j → j < 8 → hasB g (nI j) = false := by
  intro d
  induction d with
  | zero => intro s h1 _ j h2 h3; omega
  | succ d ih =>
    intro s hd h j h1 h2
    simp only [cnt] at h
    by_cases q : hasB g (nI s) = true
    · rw [if_pos q] at h; omega
    · rw [if_neg q] at h
      by_cases q2 : j = s
      · subst q2; simpa using q
      · exact ih (s + 1) (by omega) (by omega) j (by omega) h2
theorem cnt_le {g w : Int32} (h : ∀ j, j < 8 → hasB g (nI j) = true → hasB w (nI j) = true) : ∀ (d s : Nat), s + d = 8 → cnt g s d ≤ cnt w s d := by
  intro d
  induction d with
  | zero => intro s _; exact Nat.le_refl _
  | succ d ih =>
    intro s hd
    simp only [cnt]
    have := ih (s + 1) (by omega)
    by_cases q : hasB g (nI s) = true
    · rw [if_pos q, if_pos (h s (by omega) q)]; omega
    · rw [if_neg q]; omega
/-- one step of a model of the going: away with the first of the set, while the set takes more than there is -/
def mgS (ft : Nat → Int32) (law str : Int32) : Nat → Int32 → Int32
  | 0, g => g
  | d + 1, g => if str < tkS ft g 0 8 0 then (match bsS (fun j => hasB g (nI j)) (kyF ft law) 0 8 none with
    | some k => mgS ft law str d (g &&& (bitI (nI k) ^^^ -1))
    | none => g) else g
theorem orS_lt {ft : Nat → Int32} {law : Int32} : ∀ (d p : Nat) (w : Int32) (fo : Nat → Int32) (j : Nat), j < p → orS ft law p d w fo j = fo j := by
  intro d
  induction d with
  | zero => intro p w fo j _; rfl
  | succ d ih =>
    intro p w fo j hj
    simp only [orS]
    rw [ih (p + 1) _ _ j (by omega)]
    unfold upd
    simp [show ¬ j = p by omega]
theorem mgS_more {ft : Nat → Int32} {law str : Int32} : ∀ (d : Nat) (g : Int32), cnt g 0 8 ≤ d → ¬ str < 0 → mgS ft law str d g = mgS ft law str (d + 1) g := by
  intro d
  induction d with
  | zero =>
    intro g hc h0
    have := tkS_none (ft := ft) (g := g) 8 0 0 (by omega) (cnt_zero 8 0 (by omega) (by omega))
    simp only [mgS]
    rw [this, if_neg h0]
  | succ d ih =>
    intro g hc h0
    rw [mgS, mgS]
    by_cases q : str < tkS ft g 0 8 0
    · rw [if_pos q, if_pos q]
      cases hb : bsS (fun j => hasB g (nI j)) (kyF ft law) 0 8 none with
      | none => rfl
      | some k =>
        have hf := bs_fst (fun j => hasB g (nI j)) (kyF ft law) 8
        rw [hb] at hf
        obtain ⟨k1, k2, _⟩ := hf.2 k rfl
        have := cnt_minus g k1 k2 8 0 (by omega) (by omega)
        exact ih _ (by omega) h0
    · rw [if_neg q, if_neg q]
theorem goS_mgS {ft : Nat → Int32} {law str : Int32} (h0 : ¬ str < 0) : ∀ (d p : Nat) (w g : Int32) (fo : Nat → Int32), p + d = 8 → cnt w 0 8 ≤ d → (∀ j, j < 8 → hasB g (nI j) = true → hasB w (nI j) = true) → goS ft (orS ft law p d w fo) str p d g (tkS ft g 0 8 0) = mgS ft law str d g := by
  intro d
  induction d with
  | zero => intro p w g fo _ _ _; rfl
  | succ d ih =>
    intro p w g fo hd hc hsub
    simp only [goS, mgS]
    by_cases q : str < tkS ft g 0 8 0
    · rw [if_pos q, if_pos q]
      have hfo : orS ft law p (d + 1) w fo p = frF ft w law := by
        simp only [orS]
        rw [orS_lt d (p + 1) _ _ p (by omega)]
        simp [upd]
      have hor : orS ft law p (d + 1) w fo = orS ft law (p + 1) d (w &&& (bitI (frF ft w law) ^^^ -1)) (upd fo p (frF ft w law)) := rfl
      rw [hfo, hor]
      have hfw := bs_fst (fun j => hasB w (nI j)) (kyF ft law) 8
      have hfg := bs_fst (fun j => hasB g (nI j)) (kyF ft law) 8
      rw [frF_bs]
      cases hw : bsS (fun j => hasB w (nI j)) (kyF ft law) 0 8 none with
      | none =>
        rw [hw] at hfw
        have hg0 : ∀ j, 0 ≤ j → j < 8 → hasB g (nI j) = false := fun j _ hj => by
          cases hgj : hasB g (nI j) with
          | false => rfl
          | true => have h1 := hsub j hj hgj; have h2 : hasB w (nI j) = false := hfw.1 rfl j hj; rw [h2] at h1; cases h1
        rw [tkS_none 8 0 0 (by omega) hg0] at q
        exact absurd q h0
      | some k =>
        rw [hw] at hfw
        obtain ⟨k1, k2, k3⟩ := hfw.2 k rfl
        rw [show encO (-1) (some k) = nI k from rfl, atF_n k1 (by decide)]
        have hcw := cnt_minus w k1 k2 8 0 (by omega) (by omega)
        by_cases qg : hasB g (nI k) = true
        · have hgk : bsS (fun j => hasB g (nI j)) (kyF ft law) 0 8 none = some k := hfg.uniq (hfw.sub hsub qg)
          have hm := tkS_minus ft g k1 qg 8 0 0 (by omega) (by omega)
          rw [hgk, if_pos qg, show tkS ft g 0 8 0 - ft k = tkS ft (g &&& (bitI (nI k) ^^^ -1)) 0 8 0 by rw [← hm]; exact Int32.add_sub_cancel _ _]
          refine ih (p + 1) _ _ _ (by omega) (by omega) (fun j hj hm => ?_)
          rw [hasB_minus _ (by omega) (by omega)] at hm ⊢
          simp only [Bool.and_eq_true] at hm ⊢
          exact ⟨hsub j hj hm.1, hm.2⟩
        · have qg' : hasB g (nI k) = false := by simpa using qg
          rw [minus_no (by omega) qg', if_neg qg, Int32.sub_zero]
          rw [ih (p + 1) _ g _ (by omega) (by omega) (fun j hj hm => by
            rw [hasB_minus _ (by omega) (by omega)]
            have : ¬ j = k := fun z => by rw [z] at hm; exact qg hm
            simp [this, hsub j hj hm])]
          have hcg : cnt g 0 8 ≤ d := by
            have := cnt_le (g := g) (w := w &&& (bitI (nI k) ^^^ -1)) (fun j hj hm => by
              rw [hasB_minus _ (by omega) (by omega)]
              have : ¬ j = k := fun z => by rw [z] at hm; exact qg hm
              simp [this, hsub j hj hm]) 8 0 (by omega)
            omega
          rw [mgS_more d g hcg h0, mgS, if_pos q]
    · rw [if_neg q, if_neg q]
