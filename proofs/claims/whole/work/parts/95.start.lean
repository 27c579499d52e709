/-! THE CLAIM OUT OF ONE WALK OF THE LAW'S BODY. Your part is whole_start (and what it stands on); all else here is the same for every law, but numbers. -/
def R_law : String := "TideWheelsLaw"
def lw_P (b : Addr) (xs : List Int32) (args : Array Value) (s : State) : Prop := args = #[.ref b] ∧ s.IntsAt b xs ∧ xs.length ≤ 384 ∧ (Jvm.Cond.and given_1 narrow_1).before args s = true
def lw_Q (_ : Array Value) (s : State) (o : Outcome) (t : State) : Prop := o = .returned (some (.int 1)) ∧ Framed s o t [] room_1.cells room_1.slots
def lw_Z (below : List Frame) (a : Array Value) (s : State) : State → Prop := fun t => ∃ o, t.status = .running ∧ Ended t below o ∧ lw_Q a s o t
/-- the law's own end, with 1 on the stack, nothing written that was there before, its room as the claim has it -/
theorem lw_ret {p : Program} {l : Launch} {e : Env} {s : State} {m : MethodId} {below : List Frame} {meth : Method} {c : Code} {b : Nat} (hx : p.tables.exec = Jvm.exec) (hb : c.code = code) (hr : meth.sig.returnType = ret) (hlocks : meth.locks = false) {pc : Nat} {H : Heap} {ls : Array Slot} (hdg : decode code pc = .ok (.ireturn, 1)) : W p l e room_1 s m #[Value.ref b] below meth c H [] room_1.cells room_1.slots (lw_Z below #[Value.ref b] s) (F0 m pc ls [.int 1]) := by
  intro T hT X
  obtain ⟨fs, hret, hrun, hended, hW, hframe⟩ := X.leave (v := some (.int 1)) (hlocks := hlocks) (fun h => by rw [hr] at h; cases h)
  have hmeth' : T.vm.method? m = some meth := X.method'
  refine ⟨T.setFrames fs, ?_, .returned (some (.int 1)), hrun, hended, rfl, ⟨_, rfl⟩, hW, hframe⟩
  jvm_step X.here [X.here.top, hx, hb, hdg, hmeth', hr, ret, narrow_b1]
  (try refine ⟨rfl, ?_⟩); (try refine ⟨rfl, ?_⟩)
  first | (intro acts; rw [hret _ acts rfl rfl rfl]) | rw [hret _ _ rfl rfl rfl]
  exact Steps.refl _
/-- what holds at the law's entry: the machine, the code, the tables' words (any of lw_tbl by 'hts w (by decide +kernel)'), the script of L ints xs at the cell b, what the Statement gives of the start (any of its parts by flat_of_before) -/
def lw_At (p : Program) (s : State) (m : MethodId) (meth : Method) (c : Code) (b L : Nat) (xs : Nat → Int32) : Prop :=
  p.tables.exec = Jvm.exec ∧ c.code = code ∧ meth.sig.returnType = ret ∧ c.maxLocals = 4 ∧ s.vm.findClass R_law = some m.cls ∧ (∀ w ∈ lw_tbl, w.before #[Value.ref b] s = true) ∧ va_X b L xs s s.heap ∧ b < s.heap.size ∧ meth.locks = false ∧ (Jvm.Cond.and given_1 narrow_1).before #[Value.ref b] s = true
theorem tw_inst : ∀ c, c < 12 → Cond.instantiable (tw_R c) (tw_N c) ∈ lw_tbl := tw_12 (tw_mem 328 (by decide +kernel)) (tw_mem 190 (by decide +kernel)) (tw_mem 136 (by decide +kernel)) (tw_mem 596 (by decide +kernel)) (tw_mem 308 (by decide +kernel)) (tw_mem 130 (by decide +kernel)) (tw_mem 177 (by decide +kernel)) (tw_mem 78 (by decide +kernel)) (tw_mem 119 (by decide +kernel)) (tw_mem 333 (by decide +kernel)) (tw_mem 68 (by decide +kernel)) (tw_mem 698 (by decide +kernel))
/-- what the tables give at the start -/
theorem tw_world {s : State} {args : Array Value} (hts : ∀ w ∈ lw_tbl, w.before args s = true) : ∃ (cA : Nat → ClassId) (D : va_G), tw_Wd cA D s := by
  have h : ∀ c, ∃ (cC : ClassId) (iS : Nat → Nat), c < 12 → u_Kn s (tw_R c) (tw_T c) (tw_N c) cC iS := by
    intro c
    by_cases hc : c < 12
    · obtain ⟨cC, iS, h⟩ := u_known hts (tw_lay c hc) (hts _ (tw_inst c hc))
      exact ⟨cC, iS, fun _ => h⟩
    · exact ⟨0, fun _ => 0, fun q => absurd q hc⟩
  obtain ⟨cI, kI, cmI, i1, i2, i3⟩ := Cond.arrayClass_spec (hts _ tw_w_arrI)
  obtain ⟨cmR, cR, kR, r1, -, r3, r4, r5⟩ := Cond.arrayOver_spec (hts _ tw_w_ovR)
  obtain ⟨cmW, cW, kW, w1, -, w3, w4, w5⟩ := Cond.arrayOver_spec (hts _ tw_w_ovW)
  refine ⟨fun t => if t = 0 then cI else if t = 1 then cR else cW, (fun c => Classical.choose (h c), fun c => Classical.choose (Classical.choose_spec (h c))), ⟨fun c q hq => ?_, fun k q hk => ?_⟩, va_AO.of (hts _ tw_w_ovR), va_AO.of (hts _ tw_w_ovW), fun w hw hx => ?_⟩
  · obtain ⟨hc, rfl⟩ := tw_clt hq
    exact Classical.choose_spec (Classical.choose_spec (h c)) hc
  · match k, hk with
    | 0, hk =>
      cases hk
      exact ⟨fun n z => ⟨fun k h => (by cases h), kI, i2, cmI, i3⟩, i1⟩
    | 1, hk =>
      cases hk
      exact ⟨fun n z => ⟨fun k h => (by cases h), kR, r3, cmR, r4⟩, kR, cmR, r3, r4, r1, r5⟩
    | 2, hk =>
      cases hk
      exact ⟨fun n z => ⟨fun k h => (by cases h), kW, w3, cmW, w4⟩, kW, cmW, w3, w4, w1, w5⟩
    | k + 3, hk => simp [tw_tys] at hk
  · have hb := hts w hw
    cases w <;> first | (simp [tw_xw] at hx; done) | exact va_Nw.of rfl hb
/-- YOUR PART: from the entry, for every script of at most 384 ints, the law comes to its end with true -/
theorem whole_start {p : Program} {e : Env} {s : State} {m : MethodId} {below : List Frame} {meth : Method} {c : Code} (l : Launch) (hflags : l.flags = flags0) {b L : Nat} {xs : Nat → Int32} (hL : L ≤ 384) (C0 : lw_At p s m meth c b L xs) : W p l e room_1 s m #[Value.ref b] below meth c s.heap [] 0 0 (lw_Z below #[Value.ref b] s) (entryFrame m ([Value.ref b] : List Value).toArray 4) := by
  obtain ⟨hx, hb, hr, hml, hown, hts, hX, hbl, hlocks, hgv⟩ := id C0
  obtain ⟨cA, D, hWd⟩ := tw_world hts
  obtain ⟨h1, hrun, hn1, hn2⟩ := tw_law L xs hL
  obtain ⟨F, hrun⟩ := tw_B_iff.mp hrun
  have C : tw_Cx p s m #[Value.ref b] meth c 178 := ⟨hx, hb, hml, hr, hown, hlocks, fun q => absurd q (by decide +kernel), fun w hw => hts w (List.mem_filter.mp hw).1⟩
  have K := tw_body (p := p) (l := l) (e := e) (below := below) (R := room_1) (Q := lw_Z below #[Value.ref b] s) (base := s.heap.size) (b0 := b) (L0 := L) (cA := cA) (D := D) (xs := xs) (k0 := 1) (k1 := 0) (h1 := h1) (v := some (.int 1)) C hWd ⟨by decide +kernel, by decide +kernel⟩ (fun t ht _ => tw_all l s.heap.size b L cA D xs (tw_rk t) t ht (Nat.le_refl _)) (show h1.1 ≤ room_1.cells + 1 from Nat.le_trans hn1 (by decide)) (show h1.2.1 ≤ room_1.slots + 0 from Nat.le_trans hn2 (by decide)) (fun pc len Lo S ins hd hx2 => ?_) F 0 (tw_en 178 [.ref 0]) [] (tw_h0 L xs) hrun
  · have he := tw_entry (base := s.heap.size) (b0 := b) (t := 178) (vs := [.ref 0]) (by decide +kernel)
    rw [lg_entry_eq]
    exact K s.heap _ [] 0 0 ⟨Nat.le_refl _, rfl, hbl, hX, rfl, fun k e hk => by simp [tw_h0] at hk⟩ he (fun q hq => by cases hq) rfl rfl
  · intro H ls locs cells slots hR hLR hlo hc hs
    have hir : tw_ir ins = true := by
      cases hi : tw_ir ins with
      | true => rfl
      | false => exact absurd hx2 (tw_noret _ hi)
    cases ins with
    | ireturn =>
      simp only [tw_do] at hx2
      replace hx2 := tw_gS.mp hx2
      obtain ⟨hl, hx2⟩ := hx2
      obtain rfl := eq_of_beq hl
      split at hx2
      · replace hx2 := tw_gS.mp hx2
        obtain ⟨-, hx2⟩ := hx2
        cases hx2
        refine va_forget hlo ?_
        have rm1 : 1000 ≤ room_1.cells := by decide
        have rm2 : 8000 ≤ room_1.slots := by decide
        refine W.widen (k := room_1.cells) (n := room_1.slots) (by omega) (by omega) ?_
        exact lw_ret hx hb hr hlocks hd
      · cases hx2
    | lreturn =>
      simp only [tw_do] at hx2
      replace hx2 := (tw_gS.mp hx2).2
      split at hx2
      · exact absurd (tw_gS.mp hx2).2 (fun z => by cases z)
      · cases hx2
    | areturn =>
      simp only [tw_do] at hx2
      replace hx2 := (tw_gS.mp hx2).2
      split at hx2
      · replace hx2 := Option.bind_eq_some_iff.mp hx2
        obtain ⟨w, hw, hx2⟩ := hx2
        obtain ⟨rfl, hz⟩ := tw_asAS hw
        replace hx2 := (tw_gS.mp hx2).2
        cases hx2
        rcases hz with hz | ⟨a, hz⟩ <;> cases hz
      · cases hx2
    | return_ =>
      simp only [tw_do] at hx2
      replace hx2 := (tw_gS.mp hx2).2
      split at hx2
      · exact absurd (tw_gS.mp hx2).2 (fun z => by cases z)
      · cases hx2
    | _ => cases hir
-- ===== YOUR PART ENDS =====
set_option maxHeartbeats 4000000 in
theorem lw_walk (l : Launch) (hflags : l.flags = flags0) (b : Addr) (xs : List Int32) : MetFree l x (headSpec (Jvm.Cond.code x code maxLocals ret :: tables_1) room_1) (lw_P b xs) (fun _ _ _ _ _ => True) lw_Q := by
  refine MetFree.of_bodyS (code := code) (maxLocals := maxLocals) (ret := ret) (by decide) ?_ ?_
  · intro args s m h hn
    obtain ⟨meth, c, h1, h2, h3, h4, h5, h6, -, -⟩ := Cond.code_spec hn (atoms_spec (ws := Jvm.Cond.code x code maxLocals ret :: tables_1) h _ List.mem_cons_self)
    exact ⟨meth, c, h1, h2, h3, h4, h5, h6⟩
  · intro p e s m args below meth c s₁ B hml0 hP _
    obtain ⟨rfl, hx, hbd, hgv⟩ := hP
    obtain ⟨scr, harrAt, hlist, hof, hsmall⟩ := hx
    obtain ⟨hcb, hkn, -, -⟩ := State.arrayAt?_spec harrAt
    have hown : s.vm.findClass R_law = some m.cls := findClass_of_methodNamed B.named
    have hts0 : ∀ c ∈ (Jvm.Cond.code x code maxLocals ret :: tables_1), c.before #[Value.ref b] s = true := atoms_spec (ws := Jvm.Cond.code x code maxLocals ret :: tables_1) B.pre
    have hts : ∀ w ∈ lw_tbl, w.before #[Value.ref b] s = true := k2_hts_sels lw_privs (fun w hw => hts0 w (List.mem_cons_of_mem _ hw)) lw_privs_ok
    have hml : c.maxLocals = 4 := B.maxLocals_eq (hts0 _ List.mem_cons_self)
    have X₀ : Stand p l e room_1 s m #[Value.ref b] below meth c s₁ [] 0 0 := Stand.of_body B
    have hh0 : s₁.heap = s.heap := by rw [B.state]; rfl
    have hsz : scr.slots.size = xs.length := by rw [← Array.length_toList, hlist, List.length_map]
    have hval : ∀ j : Nat, j < xs.length → scr.slots[j]? = some (.int (xs.getD j 0)) := fun j hj => by
      rw [← Array.getElem?_toList, hlist]
      simp [hj]
    have hbl : b < s.heap.size := (Array.getElem?_eq_some_iff.mp hcb).1
    have hX : va_X b xs.length (fun j => xs.getD j 0) s s.heap := ⟨scr, hcb, hof, hkn, hsz, hval⟩
    have K : W p l e room_1 s m #[Value.ref b] below meth c s₁.heap [] 0 0 (lw_Z below #[Value.ref b] s) (entryFrame m ([Value.ref b] : List Value).toArray 4) := by
      rw [hh0]
      exact whole_start l hflags hbd ⟨B.exec, B.bytes, B.returns, hml, hown, hts, hX, hbl, B.notSynchronized, hgv⟩
    obtain ⟨t, a1, o, b1, b2, b3⟩ := K s₁ rfl X₀
    exact ⟨t, o, a1, b1, b2, b3⟩
theorem lw_pre_spec {args : Array Value} {s : State} (h : (Jvm.Cond.and given_1 narrow_1).before args s = true) (hr : rest_1_c.before args s = true) : ∃ (b : Addr) (xs : List Int32), lw_P b xs args s := by
  have hs := flat_of_before _ h
  have hq := flat_of_before _ hr
  have hc : (Cond.count 1).before args s = true := hs _ (by decide +kernel)
  have harr : (Cond.arrayOf (.arg 0) .int).before args s = true := hs _ (by decide +kernel)
  have hle : (Cond.le (.length (.arg 0)) (.int 384)).before args s = true := hs _ (by decide +kernel)
  have hlen : (Cond.isInt (.length (.arg 0))).before args s = true := hq _ (by decide +kernel)
  have hall : (Cond.all (.arg 0) (.isInt (.elem (.arg 0) (.index 0)))).before args s = true := hq _ (by decide +kernel)
  obtain ⟨b, xs, hb, hx⟩ := State.ints_of_pre rfl harr hlen hall
  have hsm : xs.length < 2 ^ 31 := hx.choose_spec.2.2.2
  have hev : (Term.length (.arg 0)).eval args s none [] s = some (.int xs.length.toInt32) := hx.length_eval hb
  have hv := Cond.le_ints hev (show (Term.int 384).eval args s none [] s = some (.int 384) from rfl)
  have hd : xs.length.toInt32 ≤ 384 := by
    simpa [Cond.before, Cond.holds, hv] using hle
  have hN : xs.length ≤ 384 := (Int32.ofNat_le_ofNat hsm (by decide)).mp (show Int32.ofNat xs.length ≤ Int32.ofNat 384 from hd)
  exact ⟨b, xs, Cond.one_arg hc (show args[0]? = some (.ref b) from hb), hx, hN, h⟩
theorem lw_comes (l : Launch) (hflags : l.flags = flags0) : Comes l x (Jvm.Cond.code x code maxLocals ret :: tables_1) room_1 (fun tb e args s => Calls_1 tb e args s ∧ rest_1 tb e args s ∧ Pre_1 tb e args s)
    (fun _ _ args s o t => lw_Q args s o t) := by
  intro p e ha hc hk s m args below hf hfit hheap happ hpre
  obtain ⟨b, xs, hP⟩ := lw_pre_spec hpre.2.2 hpre.2.1
  obtain ⟨k, o, h1, h2, h3, hQ⟩ := lw_walk l hflags b xs p e ha hc hk s m args below hf ((Spec.applies_iff_loose hf).mp happ).1 hP trivial
  exact ⟨k, o, h1, h2, h3, hQ⟩
theorem lw_frame {s t : State} {o : Outcome} {args : Array Value} (h : Framed s o t [] room_1.cells room_1.slots) :
    Framed s o t (fieldLocs frame_1_writes args s ++ arrayLocs frame_1_arrays args s ++ staticLocs frame_1_statics s) room_1.cells room_1.slots := h
theorem lw_limb (L : Cond) (hL : ∀ (args : Array Value) (s t : State), L.after args s (.returned (some (.int 1))) t = true) :
    ArmFor flags0 classFile x code maxLocals ret World_1 tables_1 room_1 Calls_1 rest_1 Pre_1
      (fun tb e a s o t => postC L tb e a s o t ∧ Framed s o t (fieldLocs frame_1_writes a s ++ arrayLocs frame_1_arrays a s ++ staticLocs frame_1_statics s) room_1.cells room_1.slots) := by
  intro l hflags _ _ p e ha hc hk s m args below hf hfit hheap happ hpre
  obtain ⟨k, o, h1, h2, h3, rfl, hF⟩ := lw_comes l hflags p e ha hc hk s m args below hf hfit hheap happ hpre
  exact ⟨k, _, h1, h2, h3, hL args s _, lw_frame hF⟩
theorem i_vc : Claimed_1_1 ∧ Claimed_1_2 := ⟨lw_limb limb_1_1 (fun args s t => by simp [limb_1_1, Cond.after, Cond.holds, Cond.value]), lw_limb limb_1_2 (fun args s t => Cond.after_iff.mpr (by
  first | (rw [show limb_1_2 = Cond.eq .result (.int 1) from rfl, Cond.eq_ints (x := 1) (y := 1) rfl rfl]; simp; done) | (simp [limb_1_2, Cond.value, Term.eval]; done)))⟩
