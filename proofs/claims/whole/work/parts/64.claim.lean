/-! the claim: the machine at the start of the law, and the walk of the law as the claim wants it (from the skeleton) -/
/-! THE CLAIM OUT OF ONE WALK OF THE LAW'S BODY. Your part is whole_start (and what it stands on); all else here is the same for every law, but numbers. -/
def R_law : String := "LastScaleLaw"
def lw_P (b : Addr) (xs : List Int32) (args : Array Value) (s : State) : Prop := args = #[.ref b] ∧ s.IntsAt b xs ∧ xs.length ≤ 2048 ∧ (Jvm.Cond.and given_1 narrow_1).before args s = true
def lw_Q (_ : Array Value) (s : State) (o : Outcome) (t : State) : Prop := o = .returned (some (.int 1)) ∧ Framed s o t [] 600000 7302250
def lw_Z (below : List Frame) (a : Array Value) (s : State) : State → Prop := fun t => ∃ o, t.status = .running ∧ Ended t below o ∧ lw_Q a s o t
/-- what holds at the law's entry: the machine, the code, the tables' words (any of lw_tbl by 'hts w (by decide +kernel)'), the script of L ints xs at the cell b, what the Statement gives of the start (any of its parts by flat_of_before) -/
def lw_At (p : Program) (s : State) (m : MethodId) (meth : Method) (c : Code) (b L : Nat) (xs : Nat → Int32) : Prop :=
  p.tables.exec = Jvm.exec ∧ c.code = code ∧ meth.sig.returnType = ret ∧ c.maxLocals = 4 ∧ s.vm.findClass R_law = some m.cls ∧ (∀ w ∈ lw_tbl, w.before #[Value.ref b] s = true) ∧ va_X b L xs s s.heap ∧ b < s.heap.size ∧ meth.locks = false ∧ (Jvm.Cond.and given_1 narrow_1).before #[Value.ref b] s = true ∧ meth.name = x.name
theorem tbl_sub {w : Cond} (h : w ∈ TBL) : w ∈ lw_tbl := (List.mem_filter.mp h).1
theorem kn_cls {args : Array Value} {s : State} (hts : ∀ w ∈ TBL, w.before args s = true) : ∀ c : Nat, ∃ d : ClassId × (Nat → Nat), ∀ q : vw_C, vwCl[c]? = some q → u_Kn s q.1 q.2.1 q.2.2 d.1 d.2
  | 0 => by
    obtain ⟨c, iS, h⟩ := u_known hts inX0 (hts _ isX0)
    exact ⟨(c, iS), fun q hq => by cases hq; exact h⟩
  | 1 => by
    obtain ⟨c, iS, h⟩ := u_known hts inX1 (hts _ isX1)
    exact ⟨(c, iS), fun q hq => by cases hq; exact h⟩
  | 2 => by
    obtain ⟨c, iS, h⟩ := u_known hts inX2 (hts _ isX2)
    exact ⟨(c, iS), fun q hq => by cases hq; exact h⟩
  | 3 => by
    obtain ⟨c, iS, h⟩ := u_known hts inX3 (hts _ isX3)
    exact ⟨(c, iS), fun q hq => by cases hq; exact h⟩
  | 4 => by
    obtain ⟨c, iS, h⟩ := u_known hts inX4 (hts _ isX4)
    exact ⟨(c, iS), fun q hq => by cases hq; exact h⟩
  | 5 => by
    obtain ⟨c, iS, h⟩ := u_known hts inX5 (hts _ isX5)
    exact ⟨(c, iS), fun q hq => by cases hq; exact h⟩
  | 6 => by
    obtain ⟨c, iS, h⟩ := u_known hts inX6 (hts _ isX6)
    exact ⟨(c, iS), fun q hq => by cases hq; exact h⟩
  | 7 => by
    obtain ⟨c, iS, h⟩ := u_known hts inX7 (hts _ isX7)
    exact ⟨(c, iS), fun q hq => by cases hq; exact h⟩
  | 8 => by
    obtain ⟨c, iS, h⟩ := u_known hts inX8 (hts _ isX8)
    exact ⟨(c, iS), fun q hq => by cases hq; exact h⟩
  | n + 9 => by
    obtain ⟨c, iS, h⟩ := u_known hts inX0 (hts _ isX0)
    exact ⟨(c, iS), fun q hq => by simp at hq⟩
theorem kn_arr {args : Array Value} {s : State} (hts : ∀ w ∈ lw_tbl, w.before args s = true) : ∀ k : Nat, ∃ cA : ClassId, ∀ ty : FieldType, kTy k = some ty → ArrOfT s cA ty ∧ va_RA s cA ty := by
  intro k
  obtain ⟨c0, k0, p0, g1, g2, g3⟩ := Cond.arrayClass_spec (hts _ (tbl_sub w_aI))
  obtain ⟨c1, k1, p1, i1, i2, i3⟩ := Cond.arrayClass_spec (hts _ (tbl_sub w_aZ))
  obtain ⟨p2, c2, k2, j1, j2, j3, j4⟩ := Cond.arrayOver_specA (hts _ (List.mem_filter.mp w_oI).1)
  obtain ⟨p3, c3, k3, l1, l2, l3, l4, l5⟩ := Cond.arrayOver_spec (hts _ (List.mem_filter.mp w_oB).1)
  obtain ⟨p4, c4, k4, m1, m2, m3, m4, m5⟩ := Cond.arrayOver_spec (hts _ (List.mem_filter.mp w_oP).1)
  refine ⟨if k = 100 then c0 else if k = 101 then c1 else if k = 102 then c2 else if k = 103 then c3 else c4, fun ty hty => ?_⟩
  unfold kTy at hty
  by_cases e0 : k = 100
  · rw [if_pos e0] at hty; cases hty
    rw [if_pos e0]
    exact ⟨fun n z => ⟨fun k h => (by cases h), k0, g2, p0, g3⟩, g1⟩
  · rw [if_neg e0] at hty ⊢
    by_cases e1 : k = 101
    · rw [if_pos e1] at hty; cases hty
      rw [if_pos e1]
      exact ⟨fun n z => ⟨fun k h => (by cases h), k1, i2, p1, i3⟩, i1⟩
    · rw [if_neg e1] at hty ⊢
      by_cases e2 : k = 102
      · rw [if_pos e2] at hty; cases hty
        rw [if_pos e2]
        exact ⟨fun n z => ⟨fun k h => (by cases h), k2, j2, p2, j3⟩, j4⟩
      · rw [if_neg e2] at hty ⊢
        by_cases e3 : k = 103
        · rw [if_pos e3] at hty; cases hty
          rw [if_pos e3]
          exact ⟨fun n z => ⟨fun k h => (by cases h), k3, l3, p3, l4⟩, k3, p3, l3, l4, l1, l5⟩
        · rw [if_neg e3] at hty ⊢
          by_cases e4 : k = 104
          · rw [if_pos e4] at hty; cases hty
            exact ⟨fun n z => ⟨fun k h => (by cases h), k4, m3, p4, m4⟩, k4, p4, m3, m4, m1, m5⟩
          · rw [if_neg e4] at hty; cases hty
theorem kn_nst {args : Array Value} {s : State} (hts : ∀ w ∈ lw_tbl, w.before args s = true) : ∀ w ∈ NST, va_Nw w s := by
  intro w hw
  have hn : isNest w = true := (List.mem_filter.mp hw).2
  have h := hts w (List.mem_filter.mp hw).1
  unfold isNest at hn
  split at hn
  · exact va_Nw.of rfl h
  · exact va_Nw.of rfl h
  · exact h
  · exact h
  · cases hn
def CDT : Term := .static "LastScale$Planner" "CODES" "[I"
theorem kn_codes {b : Nat} {s : State} (hts : ∀ w ∈ lw_tbl, w.before #[Value.ref b] s = true) (hgv : (Jvm.Cond.and given_1 narrow_1).before #[Value.ref b] s = true) : ∃ a : Nat, va_Z "LastScale$Planner" "CODES" "[I" (.ref a) (fun q => s.heap.size ≤ q) s s.heap ∧ va_T .int a 6 codesV (fun q => s.heap.size ≤ q) s s.heap := by
  have hs := flat_of_before _ hgv
  have harr : (Cond.arrayOf CDT .int).before #[Value.ref b] s = true := hs _ (by decide +kernel)
  have hlen : (Cond.eq (.length CDT) (.int 6)).before #[Value.ref b] s = true := hs _ (by decide +kernel)
  have h0 : (Cond.eq (.elem CDT (.int 0)) (.int 1)).before #[Value.ref b] s = true := hs _ (by decide +kernel)
  have h1 : (Cond.eq (.elem CDT (.int 1)) (.int 1)).before #[Value.ref b] s = true := hs _ (by decide +kernel)
  have h2 : (Cond.eq (.elem CDT (.int 2)) (.int 3)).before #[Value.ref b] s = true := hs _ (by decide +kernel)
  have h3 : (Cond.eq (.elem CDT (.int 3)) (.int 27)).before #[Value.ref b] s = true := hs _ (by decide +kernel)
  have h4 : (Cond.eq (.elem CDT (.int 4)) (.int 729)).before #[Value.ref b] s = true := hs _ (by decide +kernel)
  have h5 : (Cond.eq (.elem CDT (.int 5)) (.int 59049)).before #[Value.ref b] s = true := hs _ (by decide +kernel)
  have hA : ∀ a : Nat, a < s.heap.size → ¬ (fun q : Nat => s.heap.size ≤ q) a := fun a ha => Nat.not_le.mpr ha
  obtain ⟨a, ha, hT⟩ := va_Tof (tm := CDT) (N := 6) (f := codesV) (by decide) harr (va_eqt hlen) (fun j hj => by
    rcases (show j = 0 ∨ j = 1 ∨ j = 2 ∨ j = 3 ∨ j = 4 ∨ j = 5 by omega) with e | e | e | e | e | e <;> subst e
    · exact va_eqt h0
    · exact va_eqt h1
    · exact va_eqt h2
    · exact va_eqt h3
    · exact va_eqt h4
    · exact va_eqt h5) hA
  exact ⟨a, va_Zof (hts _ (List.mem_of_getElem? (i := 494) (by decide +kernel))) (hts _ (tbl_sub ini3)) ha hA, hT⟩
theorem W_room {p : Program} {l : Launch} {e : Env} {R R' : Room} {s : State} {m : MethodId} {args : Array Value} {below : List Frame} {meth : Method} {c : Code} {H : Heap} {locs : List Loc} {cells slots : Nat} {Q : State → Prop} {g : JFrame} (h1 : R'.frames ≤ R.frames) (h2 : R'.cells ≤ R.cells) (h3 : R'.slots ≤ R.slots) (h4 : R'.locals ≤ R.locals) (h : W p l e R' s m args below meth c H locs cells slots Q g) : W p l e R s m args below meth c H locs cells slots Q g := by
  intro T hT X
  have hr := X.room
  simp only [State.hasRoom, Bool.and_eq_true, decide_eq_true_eq] at hr
  obtain ⟨⟨⟨⟨a1, a2, a3, a4, a5, a6⟩, a7⟩, a8⟩, a9⟩ := hr
  refine h T hT ⟨X.admits, X.cas, X.clock, X.frames, ?_, X.hears, X.method, X.code, X.here, X.tail, X.warmed, X.limits, X.bytes, X.same⟩
  simp only [State.hasRoom, Bool.and_eq_true, decide_eq_true_eq]
  exact ⟨⟨⟨⟨by omega, by omega, by omega, by omega, by omega, a6⟩, by omega⟩, by omega⟩, a9⟩
set_option maxHeartbeats 4000000 in
set_option maxRecDepth 100000 in
theorem whole_start {p : Program} {e : Env} {s : State} {m : MethodId} {below : List Frame} {meth : Method} {c : Code} (l : Launch) (hflags : l.flags = flags0) {b L : Nat} {xs : Nat → Int32} (hL : L ≤ 2048) (C0 : lw_At p s m meth c b L xs) : W p l e room_1 s m #[Value.ref b] below meth c s.heap [] 0 0 (lw_Z below #[Value.ref b] s) (entryFrame m ([Value.ref b] : List Value).toArray 4) := by
  obtain ⟨hx, hb, hr, hml, hown, hts, hX, hbl, hlocks, hgv, hname⟩ := id C0
  have htb : ∀ w ∈ TBL, w.before #[Value.ref b] s = true := fun w hw => hts w (tbl_sub hw)
  obtain ⟨dd, hdd⟩ := Classical.axiomOfChoice (kn_cls htb)
  obtain ⟨arr, harr⟩ := Classical.axiomOfChoice (kn_arr hts)
  obtain ⟨ca, hZ, hT⟩ := kn_codes hts hgv
  have hv := lw_start (l := l) (G := (((fun c => (dd c).1, fun c => (dd c).2) : va_G), arr, s.heap.size, ca, b, L, xs)) (b0 := s.heap.size) rfl hL
  have hl := lv_entry ([.ref b]) (n := 4) (Nat.le_of_ble_eq_true rfl)
  rw [lg_entry_eq]
  have hw := hv p e s m #[Value.ref b] below meth c s.heap [] _ ⟨hx, hb, hml, hr, hown, hlocks, hname, htb, ⟨fun c q hq => hdd c q hq, fun k ty hk => harr k ty hk, kn_nst hts⟩, ⟨hZ, hT, hX, hbl⟩, Nat.le_refl _⟩ ⟨rfl, Nat.le_refl _, fun q sh hq => by cases hq⟩ (fun _ _ => rfl) (fun _ h => by cases h) ⟨hl, fun v hv => by rw [List.mem_singleton.mp hv]; rfl⟩
  have hw2 := W_room (R := room_1) (by decide) (by decide) (by decide) (by decide) hw
  intro T hT2 X
  obtain ⟨t, a1, o, b1, b2, ⟨r, S, μ, c1, c2, -⟩, Lc, hF, hfr⟩ := hw2 T hT2 X
  have c2 : r = some (vi 1) := c2
  subst c2
  subst c1
  refine ⟨t, a1, _, b1, b2, rfl, hF.1, hF.2.1, ?_⟩
  exact hF.2.2.weaken (fun y hy hlt => absurd hlt (Nat.not_lt.mpr (hfr y hy))) (Nat.le_refl _) (Nat.le_refl _)
set_option maxHeartbeats 4000000 in
theorem lw_walk (l : Launch) (hflags : l.flags = flags0) (b : Addr) (xs : List Int32) : MetFree l x (headSpec (Jvm.Cond.code x code maxLocals ret :: tables_1) room_1) (lw_P b xs) (fun _ _ _ _ _ => True) lw_Q := by
  refine MetFree.of_bodyS (code := code) (maxLocals := maxLocals) (ret := ret) (by decide) ?_ ?_
  · intro args s m h hn
    obtain ⟨meth, c, h1, h2, h3, h4, h5, h6, -, -⟩ := Cond.code_spec hn (atoms_spec (ws := Jvm.Cond.code x code maxLocals ret :: tables_1) h _ List.mem_cons_self)
    exact ⟨meth, c, h1, h2, h3, h4, h5, h6⟩
  · intro p e s m args below meth c s₁ B hml0 hP _
    obtain ⟨rfl, hx, hbd, hgv⟩ := hP
    obtain ⟨scr, harrAt, hlist, hof, hsmall⟩ := hx
    obtain ⟨hcb, hkn, -, -⟩ := State.arrayAt?_spec harrAt
    have hown : s.vm.findClass R_law = some m.cls := findClass_of_methodNamed B.named
    have hts0 : ∀ c ∈ (Jvm.Cond.code x code maxLocals ret :: tables_1), c.before #[Value.ref b] s = true := atoms_spec (ws := Jvm.Cond.code x code maxLocals ret :: tables_1) B.pre
    have hts : ∀ w ∈ lw_tbl, w.before #[Value.ref b] s = true := k2_hts_sels lw_privs (fun w hw => hts0 w (List.mem_cons_of_mem _ hw)) lw_privs_ok
    have hml : c.maxLocals = 4 := B.maxLocals_eq (hts0 _ List.mem_cons_self)
    have X₀ : Stand p l e room_1 s m #[Value.ref b] below meth c s₁ [] 0 0 := Stand.of_body B
    have hh0 : s₁.heap = s.heap := by rw [B.state]; rfl
    have hsz : scr.slots.size = xs.length := by rw [← Array.length_toList, hlist, List.length_map]
    have hval : ∀ j : Nat, j < xs.length → scr.slots[j]? = some (.int (xs.getD j 0)) := fun j hj => by
      rw [← Array.getElem?_toList, hlist]
      simp [hj]
    have hbl : b < s.heap.size := (Array.getElem?_eq_some_iff.mp hcb).1
    have hX : va_X b xs.length (fun j => xs.getD j 0) s s.heap := ⟨scr, hcb, hof, hkn, hsz, hval⟩
    have K : W p l e room_1 s m #[Value.ref b] below meth c s₁.heap [] 0 0 (lw_Z below #[Value.ref b] s) (entryFrame m ([Value.ref b] : List Value).toArray 4) := by
      rw [hh0]
      exact whole_start l hflags hbd ⟨B.exec, B.bytes, B.returns, hml, hown, hts, hX, hbl, B.notSynchronized, hgv, (name_of_methodNamed B.named B.method).1⟩
    obtain ⟨t, a1, o, b1, b2, b3⟩ := K s₁ rfl X₀
    exact ⟨t, o, a1, b1, b2, b3⟩
theorem lw_pre_spec {args : Array Value} {s : State} (h : (Jvm.Cond.and given_1 narrow_1).before args s = true) (hr : rest_1_c.before args s = true) : ∃ (b : Addr) (xs : List Int32), lw_P b xs args s := by
  have hs := flat_of_before _ h
  have hq := flat_of_before _ hr
  have hc : (Cond.count 1).before args s = true := hs _ (by decide +kernel)
  have harr : (Cond.arrayOf (.arg 0) .int).before args s = true := hs _ (by decide +kernel)
  have hle : (Cond.le (.length (.arg 0)) (.int 2048)).before args s = true := hs _ (by decide +kernel)
  have hlen : (Cond.isInt (.length (.arg 0))).before args s = true := hq _ (by decide +kernel)
  have hall : (Cond.all (.arg 0) (.isInt (.elem (.arg 0) (.index 0)))).before args s = true := hq _ (by decide +kernel)
  obtain ⟨b, xs, hb, hx⟩ := State.ints_of_pre rfl harr hlen hall
  have hsm : xs.length < 2 ^ 31 := hx.choose_spec.2.2.2
  have hev : (Term.length (.arg 0)).eval args s none [] s = some (.int xs.length.toInt32) := hx.length_eval hb
  have hv := Cond.le_ints hev (show (Term.int 2048).eval args s none [] s = some (.int 2048) from rfl)
  have hd : xs.length.toInt32 ≤ 2048 := by
    simpa [Cond.before, Cond.holds, hv] using hle
  have hN : xs.length ≤ 2048 := (Int32.ofNat_le_ofNat hsm (by decide)).mp (show Int32.ofNat xs.length ≤ Int32.ofNat 2048 from hd)
  exact ⟨b, xs, Cond.one_arg hc (show args[0]? = some (.ref b) from hb), hx, hN, h⟩
theorem lw_comes (l : Launch) (hflags : l.flags = flags0) : Comes l x (Jvm.Cond.code x code maxLocals ret :: tables_1) room_1 (fun tb e args s => Calls_1 tb e args s ∧ rest_1 tb e args s ∧ Pre_1 tb e args s)
    (fun _ _ args s o t => lw_Q args s o t) := by
  intro p e ha hc hk s m args below hf hfit hheap happ hpre
  obtain ⟨b, xs, hP⟩ := lw_pre_spec hpre.2.2 hpre.2.1
  obtain ⟨k, o, h1, h2, h3, hQ⟩ := lw_walk l hflags b xs p e ha hc hk s m args below hf ((Spec.applies_iff_loose hf).mp happ).1 hP trivial
  exact ⟨k, o, h1, h2, h3, hQ⟩
theorem lw_frame {s t : State} {o : Outcome} {args : Array Value} (h : Framed s o t [] 600000 7302250) :
    Framed s o t (fieldLocs frame_1_writes args s ++ arrayLocs frame_1_arrays args s ++ staticLocs frame_1_statics s) 600000 7302250 := h
theorem lw_limb (L : Cond) (hL : ∀ (args : Array Value) (s t : State), L.after args s (.returned (some (.int 1))) t = true) :
    ArmFor flags0 classFile x code maxLocals ret World_1 tables_1 room_1 Calls_1 rest_1 Pre_1
      (fun tb e a s o t => postC L tb e a s o t ∧ Framed s o t (fieldLocs frame_1_writes a s ++ arrayLocs frame_1_arrays a s ++ staticLocs frame_1_statics s) 600000 7302250) := by
  intro l hflags _ _ p e ha hc hk s m args below hf hfit hheap happ hpre
  obtain ⟨k, o, h1, h2, h3, rfl, hF⟩ := lw_comes l hflags p e ha hc hk s m args below hf hfit hheap happ hpre
  exact ⟨k, _, h1, h2, h3, hL args s _, lw_frame hF⟩
theorem i_vc : Claimed_1_1 ∧ Claimed_1_2 := ⟨lw_limb limb_1_1 (fun args s t => by simp [limb_1_1, Cond.after, Cond.holds, Cond.value]), lw_limb limb_1_2 (fun args s t => Cond.after_iff.mpr (by
  first | (rw [show limb_1_2 = Cond.eq .result (.int 1) from rfl, Cond.eq_ints (x := 1) (y := 1) rfl rfl]; simp; done) | (simp [limb_1_2, Cond.value, Term.eval]; done)))⟩
