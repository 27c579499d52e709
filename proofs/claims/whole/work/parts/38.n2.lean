/-! the class's hours and the model's are the same -/
theorem tid_ix {nt s0 s : Nat} (h1 : 0 < nt) (h2 : nt ≤ 6) (h3 : s0 < nt) (h4 : s < 60) : (nI s0 + nI s) - (nI s0 + nI s) / nI nt * nI nt = nI ((s0 + s) % nt) := by
  have : ∀ (a : Fin 6) (b : Fin 6) (s : Fin 60), (nI b.1 + nI s.1) - (nI b.1 + nI s.1) / nI (a.1 + 1) * nI (a.1 + 1) = nI ((b.1 + s.1) % (a.1 + 1)) := by decide +kernel
  have e := this ⟨nt - 1, by omega⟩ ⟨s0, by omega⟩ ⟨s, h4⟩
  simp only [show nt - 1 + 1 = nt by omega] at e
  exact e
theorem tid_ok {nt s0 : Nat} (h1 : 0 < nt) (h2 : nt ≤ 6) (h3 : s0 < nt) : Tid (nI nt) (nI s0) := by
  refine ⟨nI_ne0 h1 (by omega), fun s hs => ?_⟩
  rw [tid_ix h1 h2 h3 hs]
  exact tw_vi_n (Nat.lt_of_lt_of_le (Nat.mod_lt _ h1) h2) (by decide)
theorem stS_acc (f g : Nat → Int32) (hr : Int32) : ∀ (d s : Nat) (acc x : Int32), stS f g hr s d (acc + x) = stS f g hr s d acc + x := by
  intro d
  induction d with
  | zero => intro s acc x; rfl
  | succ d ih =>
    intro s acc x
    simp only [stS]
    rw [show acc + x + (if f s = hr then g s else 0) = (acc + if f s = hr then g s else 0) + x by ac_rfl]
    exact ih _ _ _
theorem stS_congr {f g f' g' : Nat → Int32} (hr : Int32) : ∀ (d s : Nat) (acc : Int32), (∀ j, s ≤ j → j < s + d → f j = f' j ∧ g j = g' j) → stS f g hr s d acc = stS f' g' hr s d acc := by
  intro d
  induction d with
  | zero => intro s acc _; rfl
  | succ d ih =>
    intro s acc h
    simp only [stS]
    obtain ⟨e1, e2⟩ := h s (by omega) (by omega)
    rw [e1, e2]
    exact ih (s + 1) _ (fun j h1 h2 => h j (by omega) (by omega))
theorem stS_last (f g : Nat → Int32) (hr : Int32) : ∀ (d s : Nat) (acc : Int32), stS f g hr s (d + 1) acc = stS f g hr s d acc + if f (s + d) = hr then g (s + d) else 0 := by
  intro d
  induction d with
  | zero => intro s acc; rfl
  | succ d ih =>
    intro s acc
    rw [stS, ih, show s + 1 + d = s + (d + 1) by omega]
    rfl
section N2
variable {nt s0 n : Nat} {tfx tfm sh sa f34 f35 : Nat → Int32}
theorem tide_eq (h1 : 0 < nt) (h2 : nt ≤ 6) (h3 : s0 < nt) (ht : ∀ j, j < nt → tfx j = tfm j) {s : Nat} (hs : s < 60) : tideF (nI nt) tfx (nI s0 + nI s) = atF 6 tfm ((nI s0 + nI s) - (nI s0 + nI s) / nI nt * nI nt) := by
  have q : 0 < nI nt := by
    have := nI_lt (a := 0) (b := nt) h1 (by omega)
    exact this
  unfold tideF
  rw [if_pos q, tid_ix h1 h2 h3 hs, atF_n (Nat.lt_of_lt_of_le (Nat.mod_lt _ h1) h2) (by decide), atF_n (Nat.lt_of_lt_of_le (Nat.mod_lt _ h1) h2) (by decide)]
  exact ht _ (Nat.mod_lt _ h1)
theorem str_eq (h1 : 0 < nt) (h2 : nt ≤ 6) (h3 : s0 < nt) (ht : ∀ j, j < nt → tfx j = tfm j) (hn : ∀ j, j < n → sh j = f34 j ∧ sa j = f35 j) {s : Nat} (hs : s < 60) : strM (nI nt) tfm n f34 f35 (nI s0) (nI s) = strF (nI nt) tfx n sh sa (nI s0) (nI s) 0 := by
  unfold strM strF
  rw [tide_eq h1 h2 h3 ht hs, Int32.add_zero, stS_congr (nI s) n 0 _ (fun j _ hj => hn j (by omega))]
theorem str_more (h1 : 0 < nt) (h2 : nt ≤ 6) (h3 : s0 < nt) (ht : ∀ j, j < nt → tfx j = tfm j) (hn : ∀ j, j < n → sh j = f34 j ∧ sa j = f35 j) (v hour : Int32) {s : Nat} (hs : s < 60) : strM (nI nt) tfm (n + 1) (upd f34 n hour) (upd f35 n v) (nI s0) (nI s) = strF (nI nt) tfx n sh sa (nI s0) (nI s) (if hour = nI s then v else 0) := by
  unfold strM strF
  rw [tide_eq h1 h2 h3 ht hs, stS_acc, stS_last, Nat.zero_add]
  rw [stS_congr (f := upd f34 n hour) (g := upd f35 n v) (f' := sh) (g' := sa) (nI s) n 0 _ (fun j _ hj => by
    unfold upd
    rw [if_neg (by omega), if_neg (by omega)]
    exact ⟨(hn j (by omega)).1.symm, (hn j (by omega)).2.symm⟩)]
  rw [show upd f34 n hour n = hour by simp [upd], show upd f35 n v n = v by simp [upd]]
end N2
section N3
theorem ltS_congr {f g : Int32 → Int32} (h : ∀ s, s < 60 → f (nI s) = g (nI s)) (k : Int32) : ∀ (d s : Nat) (acc : Int32), s + d ≤ 60 → ltS f k s d acc = ltS g k s d acc := by
  intro d
  induction d with
  | zero => intro s acc _; rfl
  | succ d ih => intro s acc hd; simp only [ltS]; rw [h s (by omega)]; exact ih _ _ (by omega)
theorem alF_congr {f g : Int32 → Int32} (h : ∀ s, s < 60 → f (nI s) = g (nI s)) : ∀ (d s : Nat), s + d ≤ 60 → alF f s d = alF g s d := by
  intro d
  induction d with
  | zero => intro s _; rfl
  | succ d ih => intro s hd; simp only [alF]; rw [h s (by omega), ih (s + 1) (by omega)]
theorem akS_stp {f g : Int32 → Int32} (h : ∀ s, s < 60 → f (nI s) = g (nI s)) (hk hour : Int32) : ∀ (d s : Nat) (l : Nat → Int32), s + d ≤ 60 → akS f hk hour s d l = akS g hk hour s d l := by
  intro d
  induction d with
  | zero => intro s l _; rfl
  | succ d ih => intro s l hd; simp only [akS]; rw [h s (by omega), ih (s + 1) _ (by omega)]
theorem lgS_congr {f g : Int32 → Int32} (h : ∀ s, s < 60 → f (nI s) = g (nI s)) : ∀ (d s : Nat) (acc : Int32), s + d ≤ 60 → lgS f s d acc = lgS g s d acc := by
  intro d
  induction d with
  | zero => intro s acc _; rfl
  | succ d ih => intro s acc hd; simp only [lgS]; rw [h s (by omega)]; exact ih _ _ (by omega)
theorem wkS_congr {f g : Int32 → Int32} (h : ∀ s, s < 60 → f (nI s) = g (nI s)) : ∀ (d s : Nat) (acc : Int32), s + d ≤ 60 → wkS f s d acc = wkS g s d acc := by
  intro d
  induction d with
  | zero => intro s acc _; rfl
  | succ d ih => intro s acc hd; simp only [wkS]; rw [h s (by omega)]; exact ih _ _ (by omega)
theorem wkF_congr {f g : Int32 → Int32} (h : ∀ s, s < 60 → f (nI s) = g (nI s)) {a e : Nat} (ha : a ≤ e) (he : e < 60) : wkF f a e = wkF g a e := by
  unfold wkF
  rw [h a (by omega)]
  exact wkS_congr h _ _ _ (by omega)
theorem ftZ_congr {f g : Int32 → Int32} (h : ∀ s, s < 60 → f (nI s) = g (nI s)) (rw_ rh ra : Nat → Int32) (nr : Nat) : ftZ f rw_ rh ra nr = ftZ g rw_ rh ra nr := ftS_stp h 60 0 _ (by omega)
theorem seS_congr {p q : Nat → Bool} : ∀ (d s : Nat) (acc : Int32), (∀ j, s ≤ j → j < s + d → p j = q j) → seS p s d acc = seS q s d acc := by
  intro d
  induction d with
  | zero => intro s acc _; rfl
  | succ d ih =>
    intro s acc h
    simp only [seS]
    rw [h s (by omega) (by omega)]
    exact ih (s + 1) _ (fun j h1 h2 => h j (by omega) (by omega))
theorem lgS_acc (f : Int32 → Int32) : ∀ (d s : Nat) (acc x : Int32), lgS f s d (acc + x) = lgS f s d acc + x := by
  intro d
  induction d with
  | zero => intro s acc x; rfl
  | succ d ih =>
    intro s acc x
    simp only [lgS]
    rw [show acc + x + bcF (f (nI s)) = acc + bcF (f (nI s)) + x by ac_rfl]
    exact ih _ _ _
theorem lgS_out {f g : Int32 → Int32} {c : Nat} (h : ∀ s, s < 60 → s ≠ c → g (nI s) = f (nI s)) : ∀ (d s : Nat) (acc : Int32), s + d ≤ 60 → c < s → lgS g s d acc = lgS f s d acc := by
  intro d
  induction d with
  | zero => intro s acc _ _; rfl
  | succ d ih => intro s acc hd hc; simp only [lgS]; rw [h s (by omega) (by omega)]; exact ih _ _ (by omega) (by omega)
theorem i_alg (a o n : Int32) : a + n = a + o + -(o - n) := by
  rw [Int32.neg_sub, Int32.add_assoc]
  congr 1
  rw [Int32.add_comm, Int32.sub_add_cancel]
theorem lgS_chg {f g : Int32 → Int32} {c : Nat} (h : ∀ s, s < 60 → s ≠ c → g (nI s) = f (nI s)) : ∀ (d s : Nat) (acc : Int32), s + d ≤ 60 → s ≤ c → c < s + d → lgS g s d acc = lgS f s d acc - (bcF (f (nI c)) - bcF (g (nI c))) := by
  intro d
  induction d with
  | zero => intro s acc _ _ _; omega
  | succ d ih =>
    intro s acc hd h1 h2
    simp only [lgS]
    by_cases q : s = c
    · subst q
      rw [lgS_out h d (s + 1) _ (by omega) (by omega), i_alg acc (bcF (f (nI s))) (bcF (g (nI s))), lgS_acc]
      exact (Int32.sub_eq_add_neg _ _).symm
    · rw [h s (by omega) q]
      exact ih (s + 1) _ (by omega) (by omega) (by omega)
theorem hpM_hpS {its sp0 spv : Int32 → Int32} {now : Int32} (h : ∀ s, s < 60 → its (nI s) = now - (bcF (sp0 (nI s)) - bcF (spv (nI s)))) : ∀ (d s : Nat) (least best : Int32), s + d ≤ 60 → hpM its s d least best = hpS sp0 spv now s d least best := by
  intro d
  induction d with
  | zero => intro s l b _; rfl
  | succ d ih =>
    intro s l b hd
    simp only [hpM, hpS]
    rw [h s (by omega), ih (s + 1) _ _ (by omega), ih (s + 1) _ _ (by omega)]
section N4
variable {nt s0 n nw : Nat} {tfx tfm sh sa f34 f35 kd wt ft fo : Nat → Int32} {hg lw hk : Int32}
theorem st_eq (h1 : 0 < nt) (h2 : nt ≤ 6) (h3 : s0 < nt) (ht : ∀ j, j < nt → tfx j = tfm j) (hn : ∀ j, j < n → sh j = f34 j ∧ sa j = f35 j) (hf1 : ∀ j, j < 8 → ft j = aT (TT nw kd wt) hg j) (hf2 : ∀ j, j < 8 → fo j = odZ (aT (TT nw kd wt) hg) lw j) : ∀ s, s < 60 → spF ft fo hk (strF (nI nt) tfx n sh sa (nI s0) (nI s) 0) = stM nw kd wt hg lw hk (nI nt) tfm n f34 f35 (nI s0) (nI s) := fun s hs => by
  unfold stM goM
  rw [str_eq h1 h2 h3 ht hn hs, spF_congr hf1 hf2]
  rfl
theorem st_more (h1 : 0 < nt) (h2 : nt ≤ 6) (h3 : s0 < nt) (ht : ∀ j, j < nt → tfx j = tfm j) (hn : ∀ j, j < n → sh j = f34 j ∧ sa j = f35 j) (hf1 : ∀ j, j < 8 → ft j = aT (TT nw kd wt) hg j) (hf2 : ∀ j, j < 8 → fo j = odZ (aT (TT nw kd wt) hg) lw j) (v hour : Int32) : ∀ s, s < 60 → stM nw kd wt hg lw hk (nI nt) tfm (n + 1) (upd f34 n hour) (upd f35 n v) (nI s0) (nI s) = spF ft fo hk (strF (nI nt) tfx n sh sa (nI s0) (nI s) (if hour = nI s then v else 0)) := fun s hs => by
  unfold stM goM
  rw [str_more h1 h2 h3 ht hn v hour hs, spF_congr hf1 hf2]
  rfl
theorem help_eq (h1 : 0 < nt) (h2 : nt ≤ 6) (h3 : s0 < nt) (ht : ∀ j, j < nt → tfx j = tfm j) (hn : ∀ j, j < n → sh j = f34 j ∧ sa j = f35 j) (hf1 : ∀ j, j < 8 → ft j = aT (TT nw kd wt) hg j) (hf2 : ∀ j, j < 8 → fo j = odZ (aT (TT nw kd wt) hg) lw j) (v what : Int32) : hpF (fun hour => spF ft fo hk (strF (nI nt) tfx n sh sa (nI s0) hour 0)) (fun hour => spF ft fo hk (strF (nI nt) tfx n sh sa (nI s0) hour v)) what = (let now := lgS (stM nw kd wt hg lw hk (nI nt) tfm n f34 f35 (nI s0)) 0 60 0; let r := hpM (fun hour => lgS (stM nw kd wt hg lw hk (nI nt) tfm (n + 1) (upd f34 n hour) (upd f35 n v) (nI s0)) 0 60 0) 0 60 now (-9); if what = 0 then r.2 else r.1) := by
  have e := st_eq (hk := hk) h1 h2 h3 ht hn hf1 hf2
  have enow : lgS (fun hour => spF ft fo hk (strF (nI nt) tfx n sh sa (nI s0) hour 0)) 0 60 0 = lgS (stM nw kd wt hg lw hk (nI nt) tfm n f34 f35 (nI s0)) 0 60 0 := lgS_congr e 60 0 0 (by omega)
  have key := hpM_hpS (its := fun hour => lgS (stM nw kd wt hg lw hk (nI nt) tfm (n + 1) (upd f34 n hour) (upd f35 n v) (nI s0)) 0 60 0) (sp0 := fun hour => spF ft fo hk (strF (nI nt) tfx n sh sa (nI s0) hour 0)) (spv := fun hour => spF ft fo hk (strF (nI nt) tfx n sh sa (nI s0) hour v)) (now := lgS (stM nw kd wt hg lw hk (nI nt) tfm n f34 f35 (nI s0)) 0 60 0) (fun c hc => by
   have em := st_more (hk := hk) h1 h2 h3 ht hn hf1 hf2 v (nI c)
   have hch := lgS_chg (f := fun hour => spF ft fo hk (strF (nI nt) tfx n sh sa (nI s0) hour 0)) (g := stM nw kd wt hg lw hk (nI nt) tfm (n + 1) (upd f34 n (nI c)) (upd f35 n v) (nI s0)) (c := c) (fun s hs hne => by
     rw [em s hs, if_neg (fun z => hne ((nI_eq (by omega) (by omega)).mp z.symm))]) 60 0 0 (by omega) (by omega) (by omega)
   rw [em c hc, if_pos rfl] at hch
   rw [hch, enow]) 60 0 (lgS (stM nw kd wt hg lw hk (nI nt) tfm n f34 f35 (nI s0)) 0 60 0) (-9) (by omega)
  simp only [hpF, enow, key]
end N4
end N3
