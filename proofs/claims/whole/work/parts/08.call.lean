/-! rows of the kit of whole numbers: calls, the copy of arrays, the rows of rows, CODES -/
def Mt (y : MethodName) (cc : ByteArray) (mL : Nat) (rt : Option FieldType) (np : Nat) : Prop := Cond.code y cc mL rt ∈ TBL ∧ Cond.initialized y.cls ∈ TBL ∧ (y.cls ≠ "java/lang/invoke/MethodHandle" ∧ y.cls ≠ "java/lang/invoke/VarHandle") ∧ mL ≤ 20 ∧ (parseMethodDescriptor y.desc).map (fun d => d.parameters.length) = some np
def Mv (y : MethodName) : Prop := Cond.instanceMethod y ∈ TBL ∧ Cond.selects y.cls y y ∈ TBL
def Ln (o : String) (idx : Nat) (y : MethodName) : Prop := Cond.methodLink o idx y ∈ TBL ∨ ∃ h, Cond.methodLinkNest o idx y h ∈ NST
section R4
variable {l : Launch} {G : Glb} {cc : ByteArray} {F : Frm} {P : Pst} {k : Nat × Nat} {S : Sh} {μ : Mu} {pc n : Nat} {L st : List Value}
theorem pre_blind {args : List Value} : FrameBlind (va_Pc args (fun U => Rep G S μ U.heap ∧ Kn G U ∧ StO G U U.heap)) := fun a U g mk q => by
  obtain ⟨q0, q1, q2, q3⟩ := q
  exact ⟨q0, q1, Kn.calling q2, StO.moved (s := U) (U := U.calling g mk a) (Vm.Alike.refl U.vm) q3⟩
theorem pre_at {args : List Value} {s : State} {H : Heap} (R : Rep G S μ H) (hK : Kn G s) (hZ : StO G s s.heap) (hf : ∀ q : Nat, q < G.2.2.1 → H[q]? = s.heap[q]?) : ∀ U : State, U.heap = H → s.WarmedH U.vm → va_Pc args (fun U => Rep G S μ U.heap ∧ Kn G U ∧ StO G U U.heap) args.toArray U := fun U hU hW => ⟨rfl, by rw [hU]; exact R, Kn.moved hW hK, by rw [hU]; exact (StO.moved hW.alike hZ).kept hf⟩
variable {y : MethodName} {cc' : ByteArray} {mL : Nat} {rt : Option FieldType} {d mc ms np : Nat} {As : List Value} {P' : Pst} {idx : Nat} {stk : List Value}
theorem callB_my {s : State} {args : Array Value} {o : String} {R : Room} (hts : ∀ w ∈ TBL, w.before args s = true) (hM : Mt y cc' mL rt np) (hl : (Cond.methodLink o idx y).before args s = true) (hR : d + 1 ≤ R.frames ∧ 60 * (d + 1) ≤ R.locals) : CallB R s args o idx y cc' mL rt (Cond.code y cc' mL rt :: TBL) (rmo d mc ms) mc ms np :=
  callB_of np hts (tb_code hM.1) rfl rfl rfl (hts _ hM.2.1) hl ⟨hM.2.2.1.1, hM.2.2.1.2, hM.2.2.2.2⟩ ⟨hR.1, by have := hM.2.2.2.1; have := hR.2; show 8 + (mL + 11) + 60 * d ≤ _; omega⟩
theorem callN_my {s : State} {args : Array Value} {o host : String} {R : Room} (hts : ∀ w ∈ TBL, w.before args s = true) (hM : Mt y cc' mL rt np) (hl : va_Nw (.methodLinkNest o idx y host) s) (hR : d + 1 ≤ R.frames ∧ 60 * (d + 1) ≤ R.locals) : va_CN R s args o idx y host cc' mL rt (Cond.code y cc' mL rt :: TBL) (rmo d mc ms) mc ms np :=
  va_cnB np hts (tb_code hM.1) rfl rfl rfl hl (hts _ hM.2.1) ⟨hM.2.2.1.1, hM.2.2.1.2, hM.2.2.2.2⟩ ⟨hR.1, by have := hM.2.2.2.1; have := hR.2; show 8 + (mL + 11) + 60 * d ≤ _; omega⟩
/-- behind a call -/
theorem v_behind {p : Program} {e : Env} {s : State} {m : MethodId} {args : Array Value} {below : List Frame} {meth : Method} {c : Code} {H : Heap} {locs : List Loc} {ls : Array Slot} {a : Array Value} (X : Cx G cc F p s m args meth c) (hf : ∀ q : Nat, q < G.2.2.1 → H[q]? = s.heap[q]?) (hlc : ∀ x ∈ locs, G.2.2.1 ≤ x.base) (hl : LV ls F.2.1 L)
    (hrun : va_Run p l e (rmo F.2.2.2.1 F.2.2.2.2.1 F.2.2.2.2.2) s m args below meth c H locs k.1 k.2 mc ms (F0 m pc ls stk) st (VQ G P' a) (fun q => G.2.2.1 ≤ q))
    (K : ∀ r S' μ', P' r S' μ' → V l G cc F P (k.1 + mc, k.2 + ms) S' μ' (pc + 3) L (r.toList ++ st)) :
    W p l e (rmo F.2.2.2.1 F.2.2.2.2.1 F.2.2.2.2.2) s m args below meth c H locs k.1 k.2 (MQ below (VQ G P) args s F.2.2.2.2.1 F.2.2.2.2.2 (fun q => G.2.2.1 ≤ q)) (F0 m pc ls stk) := by
  intro T hT X1
  obtain ⟨v, st0, t, T', Lc, h0, X', hL, e1, e2, ⟨r, S', μ', hv, hp, hR, hfr⟩, stp⟩ := hrun T hT X1
  cases hv
  obtain ⟨t2, a1, b1⟩ := K _ S' μ' hp p e s m args below meth c T'.heap (locs ++ Lc) ls X (by rw [e1]; exact hR) (fun q hq => by rw [e1, hfr q hq, h0]; exact hf q hq) (fun x hx => (List.mem_append.mp hx).elim (hlc x) (hL x)) hl T' rfl X'
  exact ⟨t2, stp t2 a1, b1⟩
theorem v_callV {b ci : Nat} {sh : Shp} {r : vw_C} (As : List Value) (hC : Ct l G cc' (y, mL, rt, d, mc, ms) (.ref b :: As) S μ P') (hd : At cc pc (.invokevirtual idx) 3 n) (hM : Mt y cc' mL rt np) (hI : Mv y) (hL : Ln F.1.cls idx y) (hS : S.2 b = some sh) (hk : sh.1 = ci) (hr : vwCl[ci]? = some r) (hrc : r.1 = y.cls) (hn : As.length = np) (hst : stk = As.reverse ++ .ref b :: st) (hfr : d + 1 ≤ F.2.2.2.1) (hmm : k.1 + mc ≤ F.2.2.2.2.1 ∧ k.2 + ms ≤ F.2.2.2.2.2) (hrs : (st.map fun v => v.category).sum ≤ 8)
    (K : ∀ r S' μ', P' r S' μ' → V l G cc F P (k.1 + mc, k.2 + ms) S' μ' n L (r.toList ++ st)) : V l G cc F P k S μ pc L stk := by
  obtain ⟨hd, rfl⟩ := hd
  intro p e s m args below meth c H locs ls X R hf hlc hl
  obtain ⟨hx, hb, hml, -, hown, -, -, hts, hK, hZ, -⟩ := id X
  have hroom : d + 1 ≤ (rmo F.2.2.2.1 F.2.2.2.2.1 F.2.2.2.2.2).frames ∧ 60 * (d + 1) ≤ (rmo F.2.2.2.1 F.2.2.2.2.1 F.2.2.2.2.2).locals := ⟨hfr, by show _ ≤ 60 * F.2.2.2.1; omega⟩
  obtain ⟨cell, g1, g2, g3, -⟩ := ((R.2.2 b sh hS).2).obj hk hr
  have hp : PreV s H y.cls b (va_Pc (.ref b :: As) (fun U => Rep G S μ U.heap ∧ Kn G U ∧ StO G U U.heap)) As := ⟨pre_blind, ⟨cell, g1, by rw [g3]; rfl, by rw [g2, ← hrc]; exact (hK.1 ci r hr).2.1⟩, pre_at R hK hZ hf⟩
  refine v_behind (stk := stk) (st := st) (a := (Value.ref b :: As).toArray) X hf hlc hl ?_ K
  rcases hL with hL | ⟨ho, hL⟩
  · exact va_runV (nL := F.2.1) (As := As) ⟨hx, hb, hml, hown, hts⟩ hC ⟨callB_my hts hM (hts _ hL) hroom, hts _ hI.1, hts _ hI.2⟩ hp rfl hn hl.1.1 hst (lv_room hrs) hd hmm
  · exact va_runVN (nL := F.2.1) (As := As) ⟨hx, hb, hml, hown, hts⟩ hC ⟨callN_my hts hM (hK.2.2 _ hL) hroom, hts _ hI.1, hts _ hI.2⟩ hp rfl hn hl.1.1 hst (lv_room hrs) hd hmm
theorem v_callS (As : List Value) (hC : Ct l G cc' (y, mL, rt, d, mc, ms) As S μ P') (hd : At cc pc (.invokestatic idx) 3 n) (hM : Mt y cc' mL rt np) (hI : Cond.static y ∈ TBL) (hL : Ln F.1.cls idx y) (hn : As.length = np) (hst : stk = As.reverse ++ st) (hfr : d + 1 ≤ F.2.2.2.1) (hmm : k.1 + mc ≤ F.2.2.2.2.1 ∧ k.2 + ms ≤ F.2.2.2.2.2) (hrs : (st.map fun v => v.category).sum ≤ 8)
    (K : ∀ r S' μ', P' r S' μ' → V l G cc F P (k.1 + mc, k.2 + ms) S' μ' n L (r.toList ++ st)) : V l G cc F P k S μ pc L stk := by
  obtain ⟨hd, rfl⟩ := hd
  intro p e s m args below meth c H locs ls X R hf hlc hl
  obtain ⟨hx, hb, hml, -, hown, -, -, hts, hK, hZ, -⟩ := id X
  have hroom : d + 1 ≤ (rmo F.2.2.2.1 F.2.2.2.2.1 F.2.2.2.2.2).frames ∧ 60 * (d + 1) ≤ (rmo F.2.2.2.1 F.2.2.2.2.1 F.2.2.2.2.2).locals := ⟨hfr, by show _ ≤ 60 * F.2.2.2.1; omega⟩
  have hp : PreS s H (va_Pc As (fun U => Rep G S μ U.heap ∧ Kn G U ∧ StO G U U.heap)) As := ⟨pre_blind, pre_at R hK hZ hf⟩
  refine v_behind (stk := stk) (st := st) (a := As.toArray) X hf hlc hl ?_ K
  rcases hL with hL | ⟨ho, hL⟩
  · exact va_runS (nL := F.2.1) (As := As) ⟨hx, hb, hml, hown, hts⟩ hC ⟨callB_my hts hM (hts _ hL) hroom, hts _ hI⟩ hp rfl hn hl.1.1 hst (lv_room hrs) hd hmm
  · exact va_runSN (nL := F.2.1) (As := As) ⟨hx, hb, hml, hown, hts⟩ hC ⟨callN_my hts hM (hK.2.2 _ hL) hroom, hts _ hI, trivial⟩ hp rfl hn hl.1.1 hst (lv_room hrs) hd hmm
theorem v_callI {b : Nat} (As : List Value) (hC : Ct l G cc' (y, mL, none, d, mc, ms) (.ref b :: As) S μ P') (hd : At cc pc (.invokespecial idx) 3 n) (hM : Mt y cc' mL none np) (hI : Cond.instanceMethod y ∈ TBL) (hy1 : y.name = "<init>") (hL : Ln F.1.cls idx y) (hn : As.length = np) (hst : stk = As.reverse ++ .ref b :: st) (hfr : d + 1 ≤ F.2.2.2.1) (hmm : k.1 + mc ≤ F.2.2.2.2.1 ∧ k.2 + ms ≤ F.2.2.2.2.2) (hrs : (st.map fun v => v.category).sum ≤ 8)
    (K : ∀ r S' μ', P' r S' μ' → V l G cc F P (k.1 + mc, k.2 + ms) S' μ' n L (r.toList ++ st)) : V l G cc F P k S μ pc L stk := by
  obtain ⟨hd, rfl⟩ := hd
  intro p e s m args below meth c H locs ls X R hf hlc hl
  obtain ⟨hx, hb, hml, -, hown, -, -, hts, hK, hZ, -⟩ := id X
  have hroom : d + 1 ≤ (rmo F.2.2.2.1 F.2.2.2.2.1 F.2.2.2.2.2).frames ∧ 60 * (d + 1) ≤ (rmo F.2.2.2.1 F.2.2.2.2.1 F.2.2.2.2.2).locals := ⟨hfr, by show _ ≤ 60 * F.2.2.2.1; omega⟩
  have hp : PreS s H (va_Pc (.ref b :: As) (fun U => Rep G S μ U.heap ∧ Kn G U ∧ StO G U U.heap)) (.ref b :: As) := ⟨pre_blind, pre_at R hK hZ hf⟩
  refine v_behind (stk := stk) (st := st) (a := (Value.ref b :: As).toArray) X hf hlc hl ?_ K
  rcases hL with hL | ⟨ho, hL⟩
  · exact va_runI (nL := F.2.1) (As := As) ⟨hx, hb, hml, hown, hts⟩ hC ⟨callB_my hts hM (hts _ hL) hroom, hy1, hts _ hI⟩ hp rfl hn hl.1.1 hst (lv_room hrs) hd hmm
  · exact va_runIN (nL := F.2.1) (As := As) ⟨hx, hb, hml, hown, hts⟩ hC ⟨callN_my hts hM (hK.2.2 _ hL) hroom, hy1, hts _ hI⟩ hp rfl hn hl.1.1 hst (lv_room hrs) hd hmm
/-- a copy of numbers from one array to another, from place sp to place dp -/
def icp (f g : Int → Int) (sp dp n : Int) : Int → Int := fun i => if dp ≤ i ∧ i < dp + n then f (sp + (i - dp)) else g i
theorem v_copy {a0 a N0 N1 : Nat} {sp dp z : Int} (hd : At cc pc (.invokestatic idx) 3 n) (hw1 : Cond.methodLink F.1.cls idx arraycopyName ∈ TBL) (hw2 : Cond.native arraycopyName ∈ TBL) (hw3 : Cond.static arraycopyName ∈ TBL) (hw4 : Cond.initialized "java/lang/System" ∈ TBL) (hS0 : S.2 a0 = some (aI N0)) (hS1 : S.2 a = some (aI N1)) (hne : a0 ≠ a) (hsp : 0 ≤ sp) (hdp : 0 ≤ dp) (hz : 0 ≤ z) (h4 : sp + z ≤ (N0 : Int)) (h5 : dp + z ≤ (N1 : Int)) (hN0 : N0 ≤ 65536) (hN1 : N1 ≤ 65536) (hfr : 1 ≤ F.2.2.2.1) (hrs : (st.map fun v => v.category).sum ≤ 8)
    (h : V l G cc F P k S (row μ a (icp (μ a0) (μ a) sp dp z)) n L st) : V l G cc F P k S μ pc L (vi z :: vi dp :: .ref a :: vi sp :: .ref a0 :: st) := by
  obtain ⟨hd, rfl⟩ := hd
  intro p e s m args below meth c H locs ls X R hf hlc hl
  obtain ⟨hx, hb, hml, -, hown, -, -, hts, hK, hZ, -⟩ := id X
  have hc0 := ((R.2.2 a0 _ hS0).2).arr (k := 100) (ty := .int) rfl rfl
  have hc1 := ((R.2.2 a _ hS1).2).arr (k := 100) (ty := .int) rfl rfl
  have e0 : ∀ (g : Int → Int) (N : Nat), arrV (G.2.1 100) (aI N).2.1 (cvl (aI N).2.2 g) = vp_cell (G.2.1 100) (N, .inl (fun j => Int32.ofInt (g (j : Int)))) := fun g N => by rw [vp_cell_i]; rfl
  rw [e0] at hc0 hc1
  have hA := (hK.2.1 100 .int rfl).1
  have hba := (R.2.2 a _ hS1).1
  have hP : va_P G.1 vwCl [(a0, .inl (G.2.1 100, (N0, .inl (fun j => Int32.ofInt (μ a0 (j : Int)))))), (a, .inl (G.2.1 100, (N1, .inl (fun j => Int32.ofInt (μ a (j : Int))))))] H := by
    intro i x hx
    match i, hx with
    | 0, hx => cases hx; exact hc0
    | 1, hx => cases hx; exact hc1
    | i + 2, hx => simp at hx
  sorry
end R4
