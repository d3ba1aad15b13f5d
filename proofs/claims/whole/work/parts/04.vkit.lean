/-! The kit of whole numbers: the machine's world as shapes of cells and integers in them; one judgement V for 'from here this method goes on and ends so' -/
def vi (z : Int) : Value := .int (Int32.ofInt z)
abbrev Shp : Type := Nat × Nat × (Nat → Option (Option Nat))
abbrev Sh : Type := Nat × (Nat → Option Shp)
abbrev Mu : Type := Nat → Int → Int
def cvl (rf : Nat → Option (Option Nat)) (g : Int → Int) : Nat → Value := fun j => match rf j with
  | none => vi (g (j : Int))
  | some r => va_rf r
theorem cvl_i {rf : Nat → Option (Option Nat)} {g : Int → Int} {j : Nat} (h : rf j = none) : cvl rf g j = vi (g j) := by simp [cvl, h]
theorem cvl_r {rf : Nat → Option (Option Nat)} {g : Int → Int} {j : Nat} {r : Option Nat} (h : rf j = some r) : cvl rf g j = va_rf r := by simp [cvl, h]
/-- the classes of the world (numbers), those of its arrays (by kind), where its cells begin, the array CODES, the script: its cell, length, numbers -/
abbrev Glb : Type := va_G × (Nat → ClassId) × Nat × Nat × Nat × Nat × (Nat → Int32)
def kTy (k : Nat) : Option FieldType :=
  if k = 100 then some .int else if k = 101 then some .boolean else if k = 102 then some (.array .int) else if k = 103 then some (.object "LastScale$Book") else if k = 104 then some (.object "LastScale$Planner") else none
theorem kTy_ge {k : Nat} {ty : FieldType} (h : kTy k = some ty) : 100 ≤ k := by
  unfold kTy at h
  repeat' split at h
  all_goals first | omega | cases h
theorem vwCl_lt {k : Nat} {r : vw_C} (h : vwCl[k]? = some r) : k < 9 := (List.getElem?_eq_some_iff.mp h).1
def celA (G : Glb) (q : Nat) (sh : Shp) (g : Int → Int) (H : Heap) : Prop :=
  (∃ r : vw_C, vwCl[sh.1]? = some r ∧ t_OB q (G.1.1 sh.1) r.2.2 (G.1.2 sh.1) H (cvl sh.2.2 g)) ∨ ((∃ ty, kTy sh.1 = some ty) ∧ H[q]? = some (arrV (G.2.1 sh.1) sh.2.1 (cvl sh.2.2 g)))
theorem celA.lt {G : Glb} {q : Nat} {sh : Shp} {g : Int → Int} {H : Heap} (h : celA G q sh g H) : q < H.size := by
  rcases h with ⟨r, -, cell, h1, -⟩ | ⟨-, h1⟩
  · exact (Array.getElem?_eq_some_iff.mp h1).1
  · exact (Array.getElem?_eq_some_iff.mp h1).1
theorem celA.kept {G : Glb} {q : Nat} {sh : Shp} {g : Int → Int} {H H1 : Heap} (h : celA G q sh g H) (e : H1[q]? = H[q]?) : celA G q sh g H1 := by
  rcases h with ⟨r, h1, h2⟩ | ⟨h1, h2⟩
  · exact Or.inl ⟨r, h1, h2.kept e⟩
  · exact Or.inr ⟨h1, e.trans h2⟩
theorem celA.obj {G : Glb} {q : Nat} {sh : Shp} {g : Int → Int} {H : Heap} (h : celA G q sh g H) {ci : Nat} {r : vw_C} (e : sh.1 = ci) (hr : vwCl[ci]? = some r) : t_OB q (G.1.1 ci) r.2.2 (G.1.2 ci) H (cvl sh.2.2 g) := by
  subst e
  rcases h with ⟨r', h1, h2⟩ | ⟨⟨ty, h1⟩, -⟩
  · rw [Option.some.inj (hr.symm.trans h1)]; exact h2
  · have := kTy_ge h1
    have := vwCl_lt hr
    omega
theorem celA.arr {G : Glb} {q : Nat} {sh : Shp} {g : Int → Int} {H : Heap} (h : celA G q sh g H) {k : Nat} {ty : FieldType} (e : sh.1 = k) (hr : kTy k = some ty) : H[q]? = some (arrV (G.2.1 k) sh.2.1 (cvl sh.2.2 g)) := by
  subst e
  rcases h with ⟨r', h1, h2⟩ | ⟨-, h2⟩
  · have := kTy_ge hr
    have := vwCl_lt h1
    omega
  · exact h2
def Rep (G : Glb) (S : Sh) (μ : Mu) (H : Heap) : Prop := H.size = S.1 ∧ G.2.2.1 ≤ S.1 ∧ ∀ q sh, S.2 q = some sh → G.2.2.1 ≤ q ∧ celA G q sh (μ q) H
def upd2 (μ : Mu) (a : Nat) (z x : Int) : Mu := fun q i => if q = a ∧ i = z then x else μ q i
def row (μ : Mu) (a : Nat) (g : Int → Int) : Mu := fun q => if q = a then g else μ q
def sput (S : Sh) (a : Nat) (sh : Shp) : Sh := (S.1, fun q => if q = a then some sh else S.2 q)
def rput (sh : Shp) (k : Nat) (r : Option Nat) : Shp := (sh.1, sh.2.1, fun j => if j = k then some r else sh.2.2 j)
def snew (S : Sh) (sh : Shp) : Sh := (S.1 + 1, fun q => if q = S.1 then some sh else S.2 q)
def mnew (S : Sh) (μ : Mu) : Mu := fun q => if q = S.1 then fun _ => 0 else μ q
/-- what is known of the machine's tables -/
def Kn (G : Glb) (U : State) : Prop :=
  (∀ (c : Nat) (q : vw_C), vwCl[c]? = some q → u_Kn U q.1 q.2.1 q.2.2 (G.1.1 c) (G.1.2 c)) ∧
  (∀ (k : Nat) (ty : FieldType), kTy k = some ty → ArrOfT U (G.2.1 k) ty ∧ va_RA U (G.2.1 k) ty) ∧ (∀ w ∈ NST, va_Nw w U)
theorem nst_moved {w : Cond} (hw : w ∈ NST) {s U : State} (hW : s.WarmedH U.vm) (h : va_Nw w s) : va_Nw w U := by
  have hn : isNest w = true := (List.mem_filter.mp hw).2
  unfold isNest at hn
  split at hn
  · exact va_Nw.warmF hW h
  · exact va_Nw.warmM hW h
  · exact va_AO.moved hW.alike h
  · exact over_moved hW.alike h
  · cases hn
theorem Kn.moved {G : Glb} {s U : State} (hW : s.WarmedH U.vm) (h : Kn G s) : Kn G U :=
  ⟨fun c q hq => u_Kn_moved hW.alike (h.1 c q hq), fun k ty hk => ⟨arrOfT_moved hW.alike (h.2.1 k ty hk).1, (h.2.1 k ty hk).2.moved hW.alike⟩, fun w hw => nst_moved hw hW (h.2.2 w hw)⟩
theorem nst_calling {w : Cond} (hw : w ∈ NST) {U : State} {g : JFrame} {mk : MethodId} {a : Array Value} (h : va_Nw w U) : va_Nw w (U.calling g mk a) := by
  have hn : isNest w = true := (List.mem_filter.mp hw).2
  unfold isNest at hn
  split at hn
  · exact va_Nw.same rfl (u := U) rfl h
  · exact va_Nw.same rfl (u := U) rfl h
  · exact va_AO.moved (u := U) (Vm.Alike.refl U.vm) h
  · exact over_moved (u := U) (Vm.Alike.refl U.vm) h
  · cases hn
theorem Kn.calling {G : Glb} {U : State} {g : JFrame} {mk : MethodId} {a : Array Value} (h : Kn G U) : Kn G (U.calling g mk a) :=
  ⟨fun c q hq => u_Kn_moved (u := U) (Vm.Alike.refl U.vm) (h.1 c q hq), fun k ty hk => ⟨arrOfT_moved (u := U) (Vm.Alike.refl U.vm) (h.2.1 k ty hk).1, va_RA.moved (u := U) (Vm.Alike.refl U.vm) (h.2.1 k ty hk).2⟩, fun w hw => nst_calling hw (h.2.2 w hw)⟩
def codesV (j : Nat) : Value := vi (if j = 0 then 1 else if j = 1 then 1 else if j = 2 then 3 else if j = 3 then 27 else if j = 4 then 729 else 59049)
def StO (G : Glb) (U : State) (H : Heap) : Prop := va_Z "LastScale$Planner" "CODES" "[I" (.ref G.2.2.2.1) (fun q => G.2.2.1 ≤ q) U H ∧ va_T .int G.2.2.2.1 6 codesV (fun q => G.2.2.1 ≤ q) U H ∧ va_X G.2.2.2.2.1 G.2.2.2.2.2.1 G.2.2.2.2.2.2 U H ∧ G.2.2.2.2.1 < G.2.2.1
theorem StO.moved {G : Glb} {s U : State} {H : Heap} (hvm : s.vm.Alike U.vm) (h : StO G s H) : StO G U H := ⟨h.1.moved hvm, h.2.1.moved hvm, h.2.2.1.moved hvm, h.2.2.2⟩
theorem StO.kept {G : Glb} {U : State} {H H1 : Heap} (h : StO G U H) (hq : ∀ a : Nat, a < G.2.2.1 → H1[a]? = H[a]?) : StO G U H1 := ⟨h.1.kept fun a _ ha => hq a (Nat.not_le.mp ha), h.2.1.kept fun a _ ha => hq a (Nat.not_le.mp ha), h.2.2.1.kept (hq _ h.2.2.2), h.2.2.2⟩
/-- how a method ends: its answer, the shapes, the numbers -/
abbrev Pst : Type := Option Value → Sh → Mu → Prop
def VQ (G : Glb) (P : Pst) : Array Value → State → Outcome → State → Prop := fun _ st o t => ∃ r S μ, o = .returned r ∧ P r S μ ∧ Rep G S μ t.heap ∧ ∀ q : Nat, q < G.2.2.1 → t.heap[q]? = st.heap[q]?
/-- a method: name, locals, return type, depth of its calls, cells and slots that it may make -/
abbrev Frm : Type := MethodName × Nat × Option FieldType × Nat × Nat × Nat
def rmo (d mc ms : Nat) : Room := { frames := d, cells := mc, slots := ms, locals := 60 * d }
def Cx (G : Glb) (cc : ByteArray) (F : Frm) (p : Program) (s : State) (m : MethodId) (args : Array Value) (meth : Method) (c : Code) : Prop :=
  p.tables.exec = Jvm.exec ∧ c.code = cc ∧ c.maxLocals = F.2.1 ∧ meth.sig.returnType = F.2.2.1 ∧ s.vm.findClass F.1.cls = some m.cls ∧ meth.locks = false ∧ meth.name = F.1.name ∧ (∀ w ∈ TBL, w.before args s = true) ∧ Kn G s ∧ StO G s s.heap ∧ G.2.2.1 ≤ s.heap.size
def nu : Nat → List Value → List (Nat × Value)
  | _, [] => []
  | j, v :: t => (j, v) :: nu (j + 1) t
def lget : List Value → Nat → Option Value
  | [], _ => none
  | v :: _, 0 => some v
  | _ :: t, i + 1 => lget t i
def lset : List Value → Nat → Value → List Value
  | [], 0, v => [v]
  | [], _ + 1, _ => []
  | _ :: t, 0, v => v :: t
  | a :: t, i + 1, v => a :: lset t i v
theorem nu_get : ∀ {L : List Value} {j i : Nat} {v : Value}, lget L i = some v → (j + i, v) ∈ nu j L
  | [], _, _, _, h => by simp [lget] at h
  | a :: t, j, 0, v, h => by simp only [lget, Option.some.injEq] at h; subst h; simp [nu]
  | a :: t, j, i + 1, v, h => by
    have := nu_get (j := j + 1) (show lget t i = some v from h)
    rw [show j + 1 + i = j + (i + 1) by omega] at this
    exact List.mem_cons_of_mem _ this
theorem nu_ge : ∀ {L : List Value} {j : Nat} {q : Nat × Value}, q ∈ nu j L → j ≤ q.1
  | [], _, _, h => by simp [nu] at h
  | a :: t, j, q, h => by
    rcases List.mem_cons.mp h with rfl | h
    · exact Nat.le_refl _
    · have := nu_ge h; omega
theorem nu_set : ∀ {L : List Value} {j i : Nat} {v : Value} {q : Nat × Value}, q ∈ nu j (lset L i v) → q = (j + i, v) ∨ (q ∈ nu j L ∧ q.1 ≠ j + i)
  | [], j, 0, v, q, h => by simp [lset, nu] at h; exact Or.inl h
  | [], j, i + 1, v, q, h => by simp [lset, nu] at h
  | a :: t, j, 0, v, q, h => by
    rcases List.mem_cons.mp (show q ∈ (j, v) :: nu (j + 1) t from h) with rfl | h
    · exact Or.inl rfl
    · refine Or.inr ⟨List.mem_cons_of_mem _ h, ?_⟩
      have := nu_ge h; omega
  | a :: t, j, i + 1, v, q, h => by
    rcases List.mem_cons.mp (show q ∈ (j, a) :: nu (j + 1) (lset t i v) from h) with rfl | h
    · exact Or.inr ⟨List.mem_cons_self, by show j ≠ _; omega⟩
    · rcases nu_set h with h | ⟨h, h2⟩
      · exact Or.inl (by rw [h, show j + 1 + i = j + (i + 1) by omega])
      · exact Or.inr ⟨List.mem_cons_of_mem _ h, by omega⟩
theorem nu_mem : ∀ {L : List Value} {j : Nat} {q : Nat × Value}, q ∈ nu j L → q.2 ∈ L
  | [], _, _, h => by simp [nu] at h
  | a :: t, j, q, h => by
    rcases List.mem_cons.mp h with rfl | h
    · exact List.mem_cons_self
    · exact List.mem_cons_of_mem _ (nu_mem h)
/-- the locals that are known -/
def LV (ls : Array Slot) (n : Nat) (L : List Value) : Prop := lv_has ls n (nu 0 L) ∧ ∀ v ∈ L, v.category = 1
theorem LV.get {ls : Array Slot} {n i : Nat} {L : List Value} {v : Value} (h : LV ls n L) (e : lget L i = some v) : ls[i]? = some (.val v) := by
  have := h.1.2.2 _ (nu_get (j := 0) e)
  simpa using this
theorem LV.set {ls ls' : Array Slot} {n i : Nat} {L : List Value} {v : Value} (h : LV ls n L) (hc : v.category = 1) (h' : lv_has ls' n ((i, v) :: (nu 0 L).filter (fun q => !(q.1 == i) && !(q.1 + 1 == i && q.2.category == 2)))) : LV ls' n (lset L i v) := by
  refine ⟨⟨h'.1, h'.2.1, fun q hq => h'.2.2 q ?_⟩, fun w hw => ?_⟩
  · rcases nu_set hq with e | ⟨e, e2⟩
    · rw [e]; simp
    · refine List.mem_cons_of_mem _ (List.mem_filter.mpr ⟨e, ?_⟩)
      have h1 := h.2 _ (nu_mem e)
      simp only [Nat.zero_add] at e2
      simp [e2, h1]
  · have : ∀ (L : List Value) (i : Nat), w ∈ lset L i v → w = v ∨ w ∈ L := by
      intro L
      induction L with
      | nil => intro i h; cases i <;> simp [lset] at h; exact Or.inl h
      | cons a t ih =>
        intro i h
        cases i with
        | zero => rcases List.mem_cons.mp (show w ∈ v :: t from h) with h | h
                  · exact Or.inl h
                  · exact Or.inr (List.mem_cons_of_mem _ h)
        | succ i => rcases List.mem_cons.mp (show w ∈ a :: lset t i v from h) with h | h
                    · exact Or.inr (by rw [h]; exact List.mem_cons_self)
                    · rcases ih i h with h | h
                      · exact Or.inl h
                      · exact Or.inr (List.mem_cons_of_mem _ h)
    rcases this L i hw with rfl | h1
    · exact hc
    · exact h.2 w h1
/-- from here the method goes on, and ends so -/
def V (l : Launch) (G : Glb) (cc : ByteArray) (F : Frm) (P : Pst) (k : Nat × Nat) (S : Sh) (μ : Mu) (pc : Nat) (L st : List Value) : Prop :=
  ∀ (p : Program) (e : Env) (s : State) (m : MethodId) (args : Array Value) (below : List Frame) (meth : Method) (c : Code) (H : Heap) (locs : List Loc) (ls : Array Slot),
    Cx G cc F p s m args meth c → Rep G S μ H → (∀ q : Nat, q < G.2.2.1 → H[q]? = s.heap[q]?) → (∀ x ∈ locs, G.2.2.1 ≤ x.base) → LV ls F.2.1 L →
    W p l e (rmo F.2.2.2.1 F.2.2.2.2.1 F.2.2.2.2.2) s m args below meth c H locs k.1 k.2 (MQ below (VQ G P) args s F.2.2.2.2.1 F.2.2.2.2.2 (fun q => G.2.2.1 ≤ q)) (F0 m pc ls st)
/-- a method's contract -/
def Ct (l : Launch) (G : Glb) (cc : ByteArray) (F : Frm) (args : List Value) (S : Sh) (μ : Mu) (P : Pst) : Prop :=
  Met l F.1 (Cond.code F.1 cc F.2.1 F.2.2.1 :: TBL) (rmo F.2.2.2.1 F.2.2.2.2.1 F.2.2.2.2.2) (va_Pc args (fun U => Rep G S μ U.heap ∧ Kn G U ∧ StO G U U.heap)) (VQ G P) F.2.2.2.2.1 F.2.2.2.2.2 (fun q => G.2.2.1 ≤ q)
theorem Ct.of {l : Launch} {G : Glb} {cc : ByteArray} {F : Frm} {args : List Value} {S : Sh} {μ : Mu} {P : Pst} (hy : plainName F.1.cls = true) (ha : lv_args 0 args = nu 0 args) (hc : ∀ v ∈ args, v.category = 1) (hn : (lg_sl args).length ≤ F.2.1) (h : V l G cc F P (0, 0) S μ 0 args []) : Ct l G cc F args S μ P := by
  refine Met.ofW (cc := cc) (maxL := F.2.1) (ret := F.2.2.1) hy rfl ?_
  intro p e s m args' below meth c s₁ B hml hv
  obtain ⟨rfl, hR, hK, hZ⟩ := hv
  have hts := atoms_spec (ws := Cond.code F.1 cc F.2.1 F.2.2.1 :: TBL) B.pre
  have hl := lv_entry args (n := F.2.1) hn
  rw [lg_entry_eq]
  refine h p e s m _ below meth c s.heap [] _ ⟨B.exec, B.bytes, hml, B.returns, findClass_of_methodNamed B.named, B.notSynchronized, (name_of_methodNamed B.named B.method).1, fun w hw => hts w (List.mem_cons_of_mem _ hw), hK, hZ, by rw [hR.1]; exact hR.2.1⟩ hR (fun _ _ => rfl) (fun _ h => by cases h) ⟨by rw [← ha]; exact hl, hc⟩
theorem V.mono {l : Launch} {G : Glb} {cc : ByteArray} {F : Frm} {P P' : Pst} {k : Nat × Nat} {S : Sh} {μ : Mu} {pc : Nat} {L st : List Value} (hP : ∀ r S μ, P r S μ → P' r S μ) (h : V l G cc F P k S μ pc L st) : V l G cc F P' k S μ pc L st := by
  intro p e s m args below meth c H locs ls X R hf hlc hl T hT X1
  obtain ⟨t, h1, o, h2, h3, ⟨r, S', μ', q1, q2, q3⟩, h5⟩ := h p e s m args below meth c H locs ls X R hf hlc hl T hT X1
  exact ⟨t, h1, o, h2, h3, ⟨r, S', μ', q1, hP _ _ _ q2, q3⟩, h5⟩
