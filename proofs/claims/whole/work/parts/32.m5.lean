/-! the model's hours -/
theorem hasB_and (a b : Int32) {j : Nat} (hj : j < 32) : hasB (a &&& b) (nI j) = (hasB a (nI j) && hasB b (nI j)) := by
  rw [hasB_bit _ hj, hasB_bit _ hj, hasB_bit _ hj, Int32.toBitVec_and, BitVec.getLsbD_and]
theorem hasB_not (a : Int32) {j : Nat} (hj : j < 32) : hasB (a ^^^ -1) (nI j) = ! hasB a (nI j) := by
  rw [hasB_bit _ hj, hasB_bit _ hj, Int32.toBitVec_xor, BitVec.getLsbD_xor]
  have : (-1 : Int32).toBitVec.getLsbD j = true := by
    have : ∀ j : Fin 32, (-1 : Int32).toBitVec.getLsbD j.1 = true := by decide +kernel
    exact this ⟨j, hj⟩
  rw [this]
  simp
theorem fset_ext {f g : Nat → Int32} {n m : Nat} (hnm : n ≤ m) (h : ∀ j, n ≤ j → j < m → g j = f j) : fset f g n = fset f g m := by
  funext j
  unfold fset
  by_cases q : j < n
  · rw [if_pos q, if_pos (by omega)]
  · rw [if_neg q]
    by_cases q2 : j < m
    · rw [if_pos q2, h j (by omega) q2]
    · rw [if_neg q2]
theorem m1_bits : (-1 : Int32).toBitVec = BitVec.allOnes 32 := by decide
theorem and_sub (a x : Int32) : (a &&& x = a) = (a &&& ((a &&& x) ^^^ -1) = 0) := by
  rw [← Int32.toBitVec_inj, ← Int32.toBitVec_inj]
  simp only [Int32.toBitVec_and, Int32.toBitVec_xor, m1_bits, BitVec.xor_allOnes]
  generalize a.toBitVec = A
  generalize x.toBitVec = X
  rw [show (0 : Int32).toBitVec = 0#32 from rfl]
  refine propext ⟨fun z => ?_, fun z => ?_⟩
  · rw [z]
    ext i hi
    simp
  · ext i hi
    have := congrArg (fun v : BitVec 32 => v.getLsbD i) z
    simp [BitVec.getLsbD_eq_getElem, hi] at this
    simp only [BitVec.getElem_and]
    cases hA : A[i] with
    | false => simp
    | true => simp [this hA]
theorem mgS_sub {ft : Nat → Int32} {law str : Int32} : ∀ (d : Nat) (g : Int32), ∃ x, mgS ft law str d g = g &&& x := by
  intro d
  induction d with
  | zero => intro g; exact ⟨-1, by simp [mgS]⟩
  | succ d ih =>
    intro g
    simp only [mgS]
    split
    · split
      · rename_i k _
        obtain ⟨x, hx⟩ := ih (g &&& (bitI (nI k) ^^^ -1))
        exact ⟨(bitI (nI k) ^^^ -1) &&& x, by rw [hx, Int32.and_assoc]⟩
      · exact ⟨-1, by simp⟩
    · exact ⟨-1, by simp⟩
section M5
variable {h : tw_H} {fl tc hk lw st hg ra rt rw nr tr : Int32} {nw n : Nat} {tf kd wt f34 f35 f : Nat → Int32}
theorem m_begin_loop (H : MZ h fl tc nw hk lw st hg ra rt rw n nr tr tf kd wt f34 f35) : ∀ (d s : Nat), s + d = 8 → tw_b 142 2 [.ref 27, .int (nI s)] [] (tw_set h 36 (iC 8 (fset f (fun _ => 0) s))) = some (none, tw_set h 36 (iC 8 (fset f (fun _ => 0) 8))) := by
  intro d
  induction d with
  | zero =>
    intro s hd
    have e : ¬ nI s < 8 := nI_nlt (b := 8) (by omega) (by omega)
    have hs : s = 8 := by omega
    rw [s142_2]
    simp [s142_0, s142_1, s142_3, s142_5, s142_8, s142_9, s142_12, s142_13, s142_14, s142_15, s142_18, s142_21, e]
    rw [hs]
  | succ d ih =>
    intro s hd
    have e : nI s < 8 := nI_lt (b := 8) (by omega) (by omega)
    have ev := tw_vi_n (show s < 8 by omega) (by decide)
    have ec := nI_clamp (show s < 2 ^ 31 by omega)
    have ef := fset_s f (fun _ => 0) s
    rw [s142_2]
    simp [s142_0, s142_1, s142_3, s142_5, s142_8, s142_9, s142_12, s142_13, s142_14, s142_15, s142_18, s142_21, tw_gf, tw_ix, tw_sg, H.1, e, ev, ec, ef, nI_1, tw_ss, ih (s + 1) (show s + 1 + d = 8 by omega)]
theorem m_begin (H : MZ h fl tc nw hk lw st hg ra rt rw n nr tr tf kd wt f34 f35) (hL : h.2.2 36 = some (iC 8 f)) : tw_b 142 0 [.ref 27, tw_un] [] h = some (none, tw_set h 36 (iC 8 (fset f (fun _ => 0) 8))) := by
  have hq := m_begin_loop (f := f) H 8 0 (by omega)
  rw [nI_0, fset_0, tw_si h hL] at hq
  simp [s142_0, s142_1, s142_3, s142_5, s142_8, s142_9, s142_12, s142_13, s142_14, s142_15, s142_18, s142_21, hq]
theorem m_hour_loop (H : MZ h fl tc nw hk lw st hg ra rt rw n nr tr tf kd wt f34 f35) (h8 : nw ≤ 8) (hour go : Int32) : ∀ (d s : Nat), s + d = nw → tw_b 143 8 [.ref 27, .int hour, .int go, .int (nI s)] [] (tw_set h 36 (iC 8 (fset f (addG (hk &&& (go ^^^ -1)) f) s))) = some (none, tw_set h 36 (iC 8 (fset f (addG (hk &&& (go ^^^ -1)) f) nw))) := by
  intro d
  induction d with
  | zero =>
    intro s hd
    have e : ¬ nI s < nI nw := nI_nlt (by omega) (by omega)
    have hs : s = nw := by omega
    rw [s143_8]
    simp [s143_0, s143_1, s143_2, s143_5, s143_6, s143_7, s143_9, s143_10, s143_13, s143_16, s143_17, s143_20, s143_21, s143_22, s143_23, s143_24, s143_27, s143_28, s143_31, s143_34, s143_35, s143_36, s143_39, s143_42, s143_43, s143_46, s143_47, s143_48, s143_49, s143_52, s143_55, tw_gf, tw_sg, H.1, e]
    rw [hs]
  | succ d ih =>
    intro s hd
    have e : nI s < nI nw := nI_lt (by omega) (by omega)
    have ev := tw_vi_n (show s < 8 by omega) (by decide)
    have ec := nI_clamp (show s < 2 ^ 31 by omega)
    have ef := fset_s f (addG (hk &&& (go ^^^ -1)) f) s
    have eg := fset_g f (addG (hk &&& (go ^^^ -1)) f) s
    have i1 := ih (s + 1) (by omega)
    have ea : addG (hk &&& (go ^^^ -1)) f s = f s + if hasB hk (nI s) = true ∧ ¬ hasB go (nI s) = true then 1 else 0 := by
      unfold addG
      rw [hasB_and _ _ (show s < 32 by omega), hasB_not _ (show s < 32 by omega)]
      simp
    rw [ea] at ef
    generalize fset f (addG (hk &&& (go ^^^ -1)) f) (s + 1) = F1 at *
    generalize fset f (addG (hk &&& (go ^^^ -1)) f) s = F0 at *
    rw [s143_8]
    by_cases q : hasB hk (nI s) = true
    · by_cases q2 : hasB go (nI s) = true
      · rw [if_neg (fun z => z.2 q2), Int32.add_zero] at ef
        rw [← i1]
        simp [s143_0, s143_1, s143_2, s143_5, s143_6, s143_7, s143_9, s143_10, s143_13, s143_16, s143_17, s143_20, s143_21, s143_22, s143_23, s143_24, s143_27, s143_28, s143_31, s143_34, s143_35, s143_36, s143_39, s143_42, s143_43, s143_46, s143_47, s143_48, s143_49, s143_52, s143_55, tw_gf, tw_ia, tw_ix, tw_sg, H.1, e, ev, ec, m_isIn, tw_bi_0, q, q2, eg, ef, nI_1, tw_ss]
      · rw [if_pos ⟨q, q2⟩] at ef
        rw [← i1]
        simp [s143_0, s143_1, s143_2, s143_5, s143_6, s143_7, s143_9, s143_10, s143_13, s143_16, s143_17, s143_20, s143_21, s143_22, s143_23, s143_24, s143_27, s143_28, s143_31, s143_34, s143_35, s143_36, s143_39, s143_42, s143_43, s143_46, s143_47, s143_48, s143_49, s143_52, s143_55, tw_gf, tw_ia, tw_ix, tw_sg, H.1, e, ev, ec, m_isIn, tw_bi_0, q, q2, eg, ef, nI_1, tw_ss]
    · rw [if_neg (fun z => q z.1), Int32.add_zero] at ef
      rw [← i1]
      simp [s143_0, s143_1, s143_2, s143_5, s143_6, s143_7, s143_9, s143_10, s143_13, s143_16, s143_17, s143_20, s143_21, s143_22, s143_23, s143_24, s143_27, s143_28, s143_31, s143_34, s143_35, s143_36, s143_39, s143_42, s143_43, s143_46, s143_47, s143_48, s143_49, s143_52, s143_55, tw_gf, tw_ia, tw_ix, tw_sg, H.1, e, ev, ec, m_isIn, tw_bi_0, q, eg, ef, nI_1, tw_ss]
/-- what stops in an hour -/
def stM (nw : Nat) (kd wt : Nat → Int32) (hg lw hk tc : Int32) (tf : Nat → Int32) (n : Nat) (f34 f35 : Nat → Int32) (st : Int32) : Int32 → Int32 := fun hour => hk &&& (goM nw kd wt hg lw hk (strM tc tf n f34 f35 st hour) ^^^ -1)
theorem stM_no {nw : Nat} {kd wt : Nat → Int32} {hg lw hk tc : Int32} {tf : Nat → Int32} {n : Nat} {f34 f35 : Nat → Int32} {st : Int32} (hb : HB nw hk) (hour : Int32) : HB nw (stM nw kd wt hg lw hk tc tf n f34 f35 st hour) := fun j h1 h2 => by
  unfold stM
  rw [hasB_and _ _ (by omega), hb j h1 h2]
  rfl
/-- tides and start are such that each hour has its tide -/
def Tid (tc st : Int32) : Prop := ¬ tc = 0 ∧ ∀ s, s < 60 → tw_vi ((st + nI s) - (st + nI s) / tc * tc) 6 = true
theorem m_goHour (H : MZ h fl tc nw hk lw st hg ra rt rw n nr tr tf kd wt f34 f35) (h8 : nw ≤ 8) (hn : n ≤ 7) (hb : HB nw hk) (hT : Tid tc st) (hL : h.2.2 36 = some (iC 8 f)) {s : Nat} (hs : s < 60) : tw_b 143 0 [.ref 27, .int (nI s), tw_un, tw_un] [] h = some (none, tw_set h 36 (iC 8 (fset f (addG (stM nw kd wt hg lw hk tc tf n f34 f35 st (nI s)) f) 8))) := by
  obtain ⟨go, hgo⟩ : ∃ go, go = goM nw kd wt hg lw hk (strM tc tf n f34 f35 st (nI s)) := ⟨_, rfl⟩
  have hgi := m_goIn H h8 hn hb hT.1 (nI s) (hT.2 s hs)
  rw [← hgo] at hgi
  have hq := m_hour_loop (f := f) H h8 (nI s) go nw 0 (by omega)
  have hno := stM_no (kd := kd) (wt := wt) (hg := hg) (lw := lw) (tc := tc) (tf := tf) (n := n) (f34 := f34) (f35 := f35) (st := st) hb (nI s)
  have hst : hk &&& (go ^^^ -1) = stM nw kd wt hg lw hk tc tf n f34 f35 st (nI s) := by rw [hgo]; rfl
  rw [nI_0, fset_0, tw_si h hL, hst, fset_ext (m := 8) h8 (fun j h1 h2 => by unfold addG; rw [hno j h1 h2]; simp)] at hq
  simp [s143_0, s143_1, s143_2, s143_5, s143_6, s143_7, s143_9, s143_10, s143_13, s143_16, s143_17, s143_20, s143_21, s143_22, s143_23, s143_24, s143_27, s143_28, s143_31, s143_34, s143_35, s143_36, s143_39, s143_42, s143_43, s143_46, s143_47, s143_48, s143_49, s143_52, s143_55, mco H.1, hgi, hq]
/-- how late works are, hour by hour -/
def hrF (stp : Int32 → Int32) : Nat → Nat → (Nat → Int32) → (Nat → Int32)
  | _, 0, f => f
  | s, d + 1, f => hrF stp (s + 1) d (fset f (addG (stp (nI s)) f) 8)
theorem m_to_loop (H : MZ h fl tc nw hk lw st hg ra rt rw n nr tr tf kd wt f34 f35) (h8 : nw ≤ 8) (hn : n ≤ 7) (hb : HB nw hk) (hT : Tid tc st) {e : Nat} (he : e < 60) : ∀ (d s : Nat) (f : Nat → Int32), s + d = e + 1 → tw_b 141 6 [.ref 27, .int (nI e), .int (nI s)] [] (tw_set h 36 (iC 8 f)) = some (none, tw_set h 36 (iC 8 (hrF (stM nw kd wt hg lw hk tc tf n f34 f35 st) s d f))) := by
  intro d
  induction d with
  | zero =>
    intro s f hd
    have e1 : nI e < nI s := nI_lt (by omega) (by omega)
    rw [s141_6]
    simp [s141_0, s141_1, s141_4, s141_5, s141_7, s141_8, s141_11, s141_12, s141_13, s141_16, s141_19, s141_22, e1, hrF]
  | succ d ih =>
    intro s f hd
    have e1 : ¬ nI e < nI s := nI_nlt (by omega) (by omega)
    have gM := H.set (a := 36) (e := iC 8 f) (by omega)
    have hh := m_goHour gM h8 hn hb hT (f := f) (by simp [tw_sg]) (show s < 60 by omega)
    rw [s141_6]
    simp [s141_0, s141_1, s141_4, s141_5, s141_7, s141_8, s141_11, s141_12, s141_13, s141_16, s141_19, s141_22, e1, mco gM.1, hh, tw_ss, nI_1, ih (s + 1) _ (show s + 1 + d = e + 1 by omega), hrF]
theorem m_goTo (H : MZ h fl tc nw hk lw st hg ra rt rw n nr tr tf kd wt f34 f35) (h8 : nw ≤ 8) (hn : n ≤ 7) (hb : HB nw hk) (hT : Tid tc st) (hL : h.2.2 36 = some (iC 8 f)) {e : Nat} (he : e < 60) : tw_b 141 0 [.ref 27, .int (nI e), tw_un] [] h = some (none, tw_set h 36 (iC 8 (hrF (stM nw kd wt hg lw hk tc tf n f34 f35 st) 0 (e + 1) (fset f (fun _ => 0) 8)))) := by
  have hl := m_to_loop H h8 hn hb hT he (e + 1) 0 (fset f (fun _ => 0) 8) (by omega)
  rw [nI_0] at hl
  simp [s141_0, s141_1, s141_4, s141_5, s141_7, s141_8, s141_11, s141_12, s141_13, s141_16, s141_19, s141_22, mco H.1, m_begin H hL, hl]
theorem hrF_ltS (stp : Int32 → Int32) {k : Nat} (hk : k < 8) : ∀ (d s : Nat) (f : Nat → Int32), hrF stp s d f k = ltS stp (nI k) s d (f k) := by
  intro d
  induction d with
  | zero => intro s f; rfl
  | succ d ih =>
    intro s f
    simp only [hrF, ltS]
    rw [ih, fset_lt hk]
    rfl
/-- from here on the model's answers -/
theorem m_all_hours (H : MZ h fl tc nw hk lw st hg ra rt rw n nr tr tf kd wt f34 f35) (h8 : nw ≤ 8) (hn : n ≤ 7) (hb : HB nw hk) (hT : Tid tc st) (hour v : Int32) : ∀ (d s : Nat), s + d = 60 → tw_b 144 14 [.ref 27, .int hour, .int v, .int (nI s)] [] h = some (some (.int (alF (stM nw kd wt hg lw hk tc tf n f34 f35 st) s d)), h) := by
  intro d
  induction d with
  | zero =>
    intro s hd
    have e1 : ¬ nI s < 60 := nI_nlt (b := 60) (by omega) (by omega)
    rw [s144_14]
    simp [s144_0, s144_1, s144_2, s144_5, s144_6, s144_7, s144_10, s144_11, s144_12, s144_13, s144_15, s144_17, s144_20, s144_21, s144_22, s144_25, s144_26, s144_29, s144_32, s144_33, s144_34, s144_37, s144_40, s144_42, e1, alF]
  | succ d ih =>
    intro s hd
    have e1 : nI s < 60 := nI_lt (b := 60) (by omega) (by omega)
    have hgi := m_goIn H h8 hn hb hT.1 (nI s) (hT.2 s (by omega))
    have i1 := ih (s + 1) (by omega)
    have e2 : (goM nw kd wt hg lw hk (strM tc tf n f34 f35 st (nI s)) = hk) = (stM nw kd wt hg lw hk tc tf n f34 f35 st (nI s) = 0) := by
      have h0 := strM_pos tc tf n f34 f35 st (nI s)
      obtain ⟨x, hx⟩ := mgS_sub (ft := aT (TT nw kd wt) hg) (law := lw) (str := strM tc tf n f34 f35 st (nI s)) 8 hk
      unfold stM
      rw [goM_mgS h0, hx]
      exact and_sub hk x
    simp only [alF]
    rw [s144_14]
    by_cases q : goM nw kd wt hg lw hk (strM tc tf n f34 f35 st (nI s)) = hk
    · rw [if_pos (e2 ▸ q)]
      simp [s144_0, s144_1, s144_2, s144_5, s144_6, s144_7, s144_10, s144_11, s144_12, s144_13, s144_15, s144_17, s144_20, s144_21, s144_22, s144_25, s144_26, s144_29, s144_32, s144_33, s144_34, s144_37, s144_40, s144_42, tw_gf, H.1, mco H.1, e1, hgi, q]
    · rw [if_neg (e2 ▸ q), ← i1]
      simp [s144_0, s144_1, s144_2, s144_5, s144_6, s144_7, s144_10, s144_11, s144_12, s144_13, s144_15, s144_17, s144_20, s144_21, s144_22, s144_25, s144_26, s144_29, s144_32, s144_33, s144_34, s144_37, s144_40, s144_42, tw_gf, H.1, mco H.1, e1, hgi, q, nI_1]
end M5
