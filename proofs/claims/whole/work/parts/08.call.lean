/-! rows of the kit of whole numbers: calls, the copy of arrays, the rows of rows, CODES -/
def Mt (y : MethodName) (cc : ByteArray) (mL : Nat) (rt : Option FieldType) (np : Nat) : Prop := Cond.code y cc mL rt ∈ TBL ∧ Cond.initialized y.cls ∈ TBL ∧ (y.cls ≠ "java/lang/invoke/MethodHandle" ∧ y.cls ≠ "java/lang/invoke/VarHandle") ∧ mL ≤ 20 ∧ (parseMethodDescriptor y.desc).map (fun d => d.parameters.length) = some np
def Mv (y : MethodName) : Prop := Cond.instanceMethod y ∈ TBL ∧ Cond.selects y.cls y y ∈ TBL
def Ln (o : String) (idx : Nat) (y : MethodName) : Prop := Cond.methodLink o idx y ∈ TBL ∨ ∃ h, Cond.methodLinkNest o idx y h ∈ NST
section R4
variable {l : Launch} {G : Glb} {cc : ByteArray} {F : Frm} {P : Pst} {k : Nat × Nat} {S : Sh} {μ : Mu} {pc n : Nat} {L st : List Value}
theorem pre_blind {args : List Value} : FrameBlind (va_Pc args (fun U => Rep G S μ U.heap ∧ Kn G U ∧ StO G U U.heap)) := fun a U g mk q => by
  obtain ⟨q0, q1, q2, q3⟩ := q
  exact ⟨q0, q1, Kn.calling q2, StO.moved (s := U) (U := U.calling g mk a) (Vm.Alike.refl U.vm) q3⟩
theorem pre_at {args : List Value} {s : State} {H : Heap} (R : Rep G S μ H) (hK : Kn G s) (hZ : StO G s s.heap) (hf : ∀ q : Nat, q < G.2.2.1 → H[q]? = s.heap[q]?) : ∀ U : State, U.heap = H → s.WarmedH U.vm → va_Pc args (fun U => Rep G S μ U.heap ∧ Kn G U ∧ StO G U U.heap) args.toArray U := fun U hU hW => ⟨rfl, by rw [hU]; exact R, Kn.moved hW hK, by rw [hU]; exact (StO.moved hW.alike hZ).kept hf⟩
variable {y : MethodName} {cc' : ByteArray} {mL : Nat} {rt : Option FieldType} {d mc ms np : Nat} {As : List Value} {P' : Pst} {idx : Nat} {stk : List Value}
theorem callB_my {s : State} {args : Array Value} {o : String} {R : Room} (hts : ∀ w ∈ TBL, w.before args s = true) (hM : Mt y cc' mL rt np) (hl : (Cond.methodLink o idx y).before args s = true) (hR : d + 1 ≤ R.frames ∧ 60 * (d + 1) ≤ R.locals) : CallB R s args o idx y cc' mL rt (Cond.code y cc' mL rt :: TBL) (rmo d mc ms) mc ms np :=
  callB_of np hts (tb_code hM.1) rfl rfl rfl (hts _ hM.2.1) hl ⟨hM.2.2.1.1, hM.2.2.1.2, hM.2.2.2.2⟩ ⟨hR.1, by have := hM.2.2.2.1; have := hR.2; show 8 + (mL + 11) + 60 * d ≤ _; omega⟩
theorem callN_my {s : State} {args : Array Value} {o host : String} {R : Room} (hts : ∀ w ∈ TBL, w.before args s = true) (hM : Mt y cc' mL rt np) (hl : va_Nw (.methodLinkNest o idx y host) s) (hR : d + 1 ≤ R.frames ∧ 60 * (d + 1) ≤ R.locals) : va_CN R s args o idx y host cc' mL rt (Cond.code y cc' mL rt :: TBL) (rmo d mc ms) mc ms np :=
  va_cnB np hts (tb_code hM.1) rfl rfl rfl hl (hts _ hM.2.1) ⟨hM.2.2.1.1, hM.2.2.1.2, hM.2.2.2.2⟩ ⟨hR.1, by have := hM.2.2.2.1; have := hR.2; show 8 + (mL + 11) + 60 * d ≤ _; omega⟩
/-- behind a call -/
theorem v_behind {p : Program} {e : Env} {s : State} {m : MethodId} {args : Array Value} {below : List Frame} {meth : Method} {c : Code} {H : Heap} {locs : List Loc} {ls : Array Slot} {a : Array Value} (X : Cx G cc F p s m args meth c) (hf : ∀ q : Nat, q < G.2.2.1 → H[q]? = s.heap[q]?) (hlc : ∀ x ∈ locs, G.2.2.1 ≤ x.base) (hl : LV ls F.2.1 L)
    (hrun : va_Run p l e (rmo F.2.2.2.1 F.2.2.2.2.1 F.2.2.2.2.2) s m args below meth c H locs k.1 k.2 mc ms (F0 m pc ls stk) st (VQ G P' a) (fun q => G.2.2.1 ≤ q))
    (K : ∀ r S' μ', P' r S' μ' → V l G cc F P (k.1 + mc, k.2 + ms) S' μ' (pc + 3) L (r.toList ++ st)) :
    W p l e (rmo F.2.2.2.1 F.2.2.2.2.1 F.2.2.2.2.2) s m args below meth c H locs k.1 k.2 (MQ below (VQ G P) args s F.2.2.2.2.1 F.2.2.2.2.2 (fun q => G.2.2.1 ≤ q)) (F0 m pc ls stk) := by
  intro T hT X1
  obtain ⟨v, st0, t, T', Lc, h0, X', hL, e1, e2, ⟨r, S', μ', hv, hp, hR, hfr⟩, stp⟩ := hrun T hT X1
  cases hv
  obtain ⟨t2, a1, b1⟩ := K _ S' μ' hp p e s m args below meth c T'.heap (locs ++ Lc) ls X (by rw [e1]; exact hR) (fun q hq => by rw [e1, hfr q hq, h0]; exact hf q hq) (fun x hx => (List.mem_append.mp hx).elim (hlc x) (hL x)) hl T' rfl X'
  exact ⟨t2, stp t2 a1, b1⟩
theorem v_callV {b ci : Nat} {sh : Shp} {r : vw_C} (As : List Value) (hC : Ct l G cc' (y, mL, rt, d, mc, ms) (.ref b :: As) S μ P') (hd : At cc pc (.invokevirtual idx) 3 n) (hM : Mt y cc' mL rt np) (hI : Mv y) (hL : Ln F.1.cls idx y) (hS : S.2 b = some sh) (hk : sh.1 = ci) (hr : vwCl[ci]? = some r) (hrc : r.1 = y.cls) (hn : As.length = np) (hst : stk = As.reverse ++ .ref b :: st) (hfr : d + 1 ≤ F.2.2.2.1) (hmm : k.1 + mc ≤ F.2.2.2.2.1 ∧ k.2 + ms ≤ F.2.2.2.2.2) (hrs : (st.map fun v => v.category).sum ≤ 8)
    (K : ∀ r S' μ', P' r S' μ' → V l G cc F P (k.1 + mc, k.2 + ms) S' μ' n L (r.toList ++ st)) : V l G cc F P k S μ pc L stk := by
  obtain ⟨hd, rfl⟩ := hd
  intro p e s m args below meth c H locs ls X R hf hlc hl
  obtain ⟨hx, hb, hml, -, hown, -, -, hts, hK, hZ, -⟩ := id X
  have hroom : d + 1 ≤ (rmo F.2.2.2.1 F.2.2.2.2.1 F.2.2.2.2.2).frames ∧ 60 * (d + 1) ≤ (rmo F.2.2.2.1 F.2.2.2.2.1 F.2.2.2.2.2).locals := ⟨hfr, by show _ ≤ 60 * F.2.2.2.1; omega⟩
  obtain ⟨cell, g1, g2, g3, -⟩ := ((R.2.2 b sh hS).2).obj hk hr
  have hp : PreV s H y.cls b (va_Pc (.ref b :: As) (fun U => Rep G S μ U.heap ∧ Kn G U ∧ StO G U U.heap)) As := ⟨pre_blind, ⟨cell, g1, by rw [g3]; rfl, by rw [g2, ← hrc]; exact (hK.1 ci r hr).2.1⟩, pre_at R hK hZ hf⟩
  refine v_behind (stk := stk) (st := st) (a := (Value.ref b :: As).toArray) X hf hlc hl ?_ K
  rcases hL with hL | ⟨ho, hL⟩
  · exact va_runV (nL := F.2.1) (As := As) ⟨hx, hb, hml, hown, hts⟩ hC ⟨callB_my hts hM (hts _ hL) hroom, hts _ hI.1, hts _ hI.2⟩ hp rfl hn hl.1.1 hst (lv_room hrs) hd hmm
  · exact va_runVN (nL := F.2.1) (As := As) ⟨hx, hb, hml, hown, hts⟩ hC ⟨callN_my hts hM (hK.2.2 _ hL) hroom, hts _ hI.1, hts _ hI.2⟩ hp rfl hn hl.1.1 hst (lv_room hrs) hd hmm
theorem v_callS (As : List Value) (hC : Ct l G cc' (y, mL, rt, d, mc, ms) As S μ P') (hd : At cc pc (.invokestatic idx) 3 n) (hM : Mt y cc' mL rt np) (hI : Cond.static y ∈ TBL) (hL : Ln F.1.cls idx y) (hn : As.length = np) (hst : stk = As.reverse ++ st) (hfr : d + 1 ≤ F.2.2.2.1) (hmm : k.1 + mc ≤ F.2.2.2.2.1 ∧ k.2 + ms ≤ F.2.2.2.2.2) (hrs : (st.map fun v => v.category).sum ≤ 8)
    (K : ∀ r S' μ', P' r S' μ' → V l G cc F P (k.1 + mc, k.2 + ms) S' μ' n L (r.toList ++ st)) : V l G cc F P k S μ pc L stk := by
  obtain ⟨hd, rfl⟩ := hd
  intro p e s m args below meth c H locs ls X R hf hlc hl
  obtain ⟨hx, hb, hml, -, hown, -, -, hts, hK, hZ, -⟩ := id X
  have hroom : d + 1 ≤ (rmo F.2.2.2.1 F.2.2.2.2.1 F.2.2.2.2.2).frames ∧ 60 * (d + 1) ≤ (rmo F.2.2.2.1 F.2.2.2.2.1 F.2.2.2.2.2).locals := ⟨hfr, by show _ ≤ 60 * F.2.2.2.1; omega⟩
  have hp : PreS s H (va_Pc As (fun U => Rep G S μ U.heap ∧ Kn G U ∧ StO G U U.heap)) As := ⟨pre_blind, pre_at R hK hZ hf⟩
  refine v_behind (stk := stk) (st := st) (a := As.toArray) X hf hlc hl ?_ K
  rcases hL with hL | ⟨ho, hL⟩
  · exact va_runS (nL := F.2.1) (As := As) ⟨hx, hb, hml, hown, hts⟩ hC ⟨callB_my hts hM (hts _ hL) hroom, hts _ hI⟩ hp rfl hn hl.1.1 hst (lv_room hrs) hd hmm
  · exact va_runSN (nL := F.2.1) (As := As) ⟨hx, hb, hml, hown, hts⟩ hC ⟨callN_my hts hM (hK.2.2 _ hL) hroom, hts _ hI, trivial⟩ hp rfl hn hl.1.1 hst (lv_room hrs) hd hmm
theorem v_callI {b : Nat} (As : List Value) (hC : Ct l G cc' (y, mL, none, d, mc, ms) (.ref b :: As) S μ P') (hd : At cc pc (.invokespecial idx) 3 n) (hM : Mt y cc' mL none np) (hI : Cond.instanceMethod y ∈ TBL) (hy1 : y.name = "<init>") (hL : Ln F.1.cls idx y) (hn : As.length = np) (hst : stk = As.reverse ++ .ref b :: st) (hfr : d + 1 ≤ F.2.2.2.1) (hmm : k.1 + mc ≤ F.2.2.2.2.1 ∧ k.2 + ms ≤ F.2.2.2.2.2) (hrs : (st.map fun v => v.category).sum ≤ 8)
    (K : ∀ r S' μ', P' r S' μ' → V l G cc F P (k.1 + mc, k.2 + ms) S' μ' n L (r.toList ++ st)) : V l G cc F P k S μ pc L stk := by
  obtain ⟨hd, rfl⟩ := hd
  intro p e s m args below meth c H locs ls X R hf hlc hl
  obtain ⟨hx, hb, hml, -, hown, -, -, hts, hK, hZ, -⟩ := id X
  have hroom : d + 1 ≤ (rmo F.2.2.2.1 F.2.2.2.2.1 F.2.2.2.2.2).frames ∧ 60 * (d + 1) ≤ (rmo F.2.2.2.1 F.2.2.2.2.1 F.2.2.2.2.2).locals := ⟨hfr, by show _ ≤ 60 * F.2.2.2.1; omega⟩
  have hp : PreS s H (va_Pc (.ref b :: As) (fun U => Rep G S μ U.heap ∧ Kn G U ∧ StO G U U.heap)) (.ref b :: As) := ⟨pre_blind, pre_at R hK hZ hf⟩
  refine v_behind (stk := stk) (st := st) (a := (Value.ref b :: As).toArray) X hf hlc hl ?_ K
  rcases hL with hL | ⟨ho, hL⟩
  · exact va_runI (nL := F.2.1) (As := As) ⟨hx, hb, hml, hown, hts⟩ hC ⟨callB_my hts hM (hts _ hL) hroom, hy1, hts _ hI⟩ hp rfl hn hl.1.1 hst (lv_room hrs) hd hmm
  · exact va_runIN (nL := F.2.1) (As := As) ⟨hx, hb, hml, hown, hts⟩ hC ⟨callN_my hts hM (hK.2.2 _ hL) hroom, hy1, hts _ hI⟩ hp rfl hn hl.1.1 hst (lv_room hrs) hd hmm
/-- a copy of numbers from one array to another, from place sp to place dp -/
def icp (f g : Int → Int) (sp dp n : Int) : Int → Int := fun i => if dp ≤ i ∧ i < dp + n then f (sp + (i - dp)) else g i
theorem v_copy {a0 a N0 N1 : Nat} {sp dp z : Int} (hd : At cc pc (.invokestatic idx) 3 n) (hw1 : Cond.methodLink F.1.cls idx arraycopyName ∈ TBL) (hw2 : Cond.native arraycopyName ∈ TBL) (hw3 : Cond.static arraycopyName ∈ TBL) (hw4 : Cond.initialized "java/lang/System" ∈ TBL) (hS0 : S.2 a0 = some (aI N0)) (hS1 : S.2 a = some (aI N1)) (hne : a0 ≠ a) (hsp : 0 ≤ sp) (hdp : 0 ≤ dp) (hz : 0 ≤ z) (h4 : sp + z ≤ (N0 : Int)) (h5 : dp + z ≤ (N1 : Int)) (hN0 : N0 ≤ 65536) (hN1 : N1 ≤ 65536) (hfr : 1 ≤ F.2.2.2.1) (hrs : (st.map fun v => v.category).sum ≤ 8)
    (h : V l G cc F P k S (row μ a (icp (μ a0) (μ a) sp dp z)) n L st) : V l G cc F P k S μ pc L (vi z :: vi dp :: .ref a :: vi sp :: .ref a0 :: st) := by
  obtain ⟨hd, rfl⟩ := hd
  intro p e s m args below meth c H locs ls X R hf hlc hl
  obtain ⟨hx, hb, hml, -, hown, -, -, hts, hK, hZ, -⟩ := id X
  have hc0 := ((R.2.2 a0 _ hS0).2).arr (k := 100) (ty := .int) rfl rfl
  have hc1 := ((R.2.2 a _ hS1).2).arr (k := 100) (ty := .int) rfl rfl
  have e0 : ∀ (g : Int → Int) (N : Nat), arrV (G.2.1 100) (aI N).2.1 (cvl (aI N).2.2 g) = vp_cell (G.2.1 100) (N, .inl (fun j => Int32.ofInt (g (j : Int)))) := fun g N => by rw [vp_cell_i]; rfl
  rw [e0] at hc0 hc1
  have hA := (hK.2.1 100 .int rfl).1
  have hba := (R.2.2 a _ hS1).1
  have hP : va_P G.1 vwCl [(a0, .inl (G.2.1 100, (N0, .inl (fun j => Int32.ofInt (μ a0 (j : Int)))))), (a, .inl (G.2.1 100, (N1, .inl (fun j => Int32.ofInt (μ a (j : Int))))))] H := by
    intro i x hx
    match i, hx with
    | 0, hx => cases hx; exact hc0
    | 1, hx => cases hx; exact hc1
    | i + 2, hx => simp at hx
  have q1 := clamp_in (z := sp) (by omega)
  have q2 := clamp_in (z := dp) (by omega)
  have q3 := clamp_in (z := z) (by omega)
  have nn : ∀ x : Int, 0 ≤ x → x < 2147483648 → ¬ Int32.ofInt x < 0 := fun x h1 h2 => by rw [(i32_0 (by omega)).1]; omega
  intro T hT X1
  obtain ⟨-, k0, hk0, cm0, hkk0⟩ := hA N0 (fun j => .int ((fun j => Int32.ofInt (μ a0 (j : Int))) j))
  obtain ⟨vm', X', step⟩ := X1.arraycopy hx hown (hts _ hw1) (hts _ hw2) (hts _ hw3) (hts _ hw4) (src := a0) (dst := a) (cs := vp_cell (G.2.1 100) (N0, .inl (fun j => Int32.ofInt (μ a0 (j : Int))))) (cd := vp_cell (G.2.1 100) (N1, .inl (fun j => Int32.ofInt (μ a (j : Int))))) (srcPos := Int32.ofInt sp) (destPos := Int32.ofInt dp) (n := Int32.ofInt z) (by rw [hT]; exact hc0) (by rw [hT]; exact hc1)
    (fun _ h => by cases h) (fun _ h => by cases h) (fun h => by cases h) (fun h => by cases h) hk0 hk0 hkk0 hkk0 (by simp [show refKind .int = false from rfl]) (nn _ hsp (by omega)) (nn _ hdp (by omega)) (nn _ hz (by omega))
    (by rw [i32_in (by omega), i32_in (by omega)]; show ¬ _ > ((arrV (G.2.1 100) N0 _).slots.size : Int); rw [arrV_size]; omega)
    (by rw [i32_in (by omega), i32_in (by omega)]; show ¬ _ > ((arrV (G.2.1 100) N1 _).slots.size : Int); rw [arrV_size]; omega)
    (fun vm₁ _ i hi => by
      rw [q3] at hi
      rw [q1]
      have e : (vp_cell (G.2.1 100) (N0, .inl (fun j => Int32.ofInt (μ a0 (j : Int))))).slots.getD (sp.toNat + i) .null = .int (Int32.ofInt (μ a0 ((sp.toNat + i : Nat) : Int))) := by
        show (arrV (G.2.1 100) N0 (fun j => .int (Int32.ofInt (μ a0 (j : Int))))).slots.getD _ _ = _
        rw [Array.getD_eq_getD_getElem?, arrV_read _ _ (by omega)]
        rfl
      refine ⟨?_, ?_⟩
      · rw [e]; rfl
      · rw [e]; exact trivial)
    (g := F0 m pc ls (vi z :: vi dp :: .ref a :: vi sp :: .ref a0 :: st)) rfl (by rw [hml]; exact hl.1.1) (rest := st) rfl (by rw [hb]; exact hd) hfr (by
      show 2 * 0 + _ + (nativeFrameWords "java/lang/System" "arraycopy" 5 + 11) ≤ 60 * F.2.2.2.1
      have : nativeFrameWords "java/lang/System" "arraycopy" 5 ≤ 30 := by decide
      omega)
  have e1 : copied (vp_cell (G.2.1 100) (N0, .inl (fun j => Int32.ofInt (μ a0 (j : Int))))) (vp_cell (G.2.1 100) (N1, .inl (fun j => Int32.ofInt (μ a (j : Int))))) (Int32.ofInt sp) (Int32.ofInt dp) (Int32.ofInt z) = vp_cell (G.2.1 100) (N1, .inl (va_cpy (fun j => Int32.ofInt (μ a0 (j : Int))) (fun j => Int32.ofInt (μ a (j : Int))) sp.toNat dp.toNat z.toNat)) := by
    have h9 := va_copied (fun z => .int z) (G.2.1 100) (G.2.1 100) (n1 := N1) (dp := (Int32.ofInt dp).toNatClampNeg) (fun j : Nat => Int32.ofInt (μ a0 (j : Int))) (fun j : Nat => Int32.ofInt (μ a (j : Int))) (show (Int32.ofInt sp).toNatClampNeg + (Int32.ofInt z).toNatClampNeg ≤ N0 by rw [q1, q3]; omega)
    rw [q1, q2, q3] at h9
    refine Eq.trans ?_ h9
    rw [← q1, ← q2, ← q3]
    rfl
  rw [e1] at X' step
  have hlt : a < H.size := (Array.getElem?_eq_some_iff.mp hc1).1
  have e2 : vp_cell (G.2.1 100) (N1, .inl (va_cpy (fun j => Int32.ofInt (μ a0 (j : Int))) (fun j => Int32.ofInt (μ a (j : Int))) sp.toNat dp.toNat z.toNat)) = arrV (G.2.1 100) N1 (cvl (fun _ => none) (icp (μ a0) (μ a) sp dp z)) := by
    rw [vp_cell_i]
    refine congrArg (arrV (G.2.1 100) N1) (funext fun j => ?_)
    show Value.int _ = vi _
    unfold va_cpy icp vi
    by_cases hj : dp.toNat ≤ j ∧ j < dp.toNat + z.toNat
    · rw [if_pos hj, if_pos (by omega)]
      show Value.int (Int32.ofInt (μ a0 ((sp.toNat + (j - dp.toNat) : Nat) : Int))) = _
      rw [show ((sp.toNat + (j - dp.toNat) : Nat) : Int) = sp + ((j : Int) - dp) by omega]
    · rw [if_neg hj, if_neg (by omega)]
  rw [e2] at X' step
  generalize hcell : arrV (G.2.1 100) N1 (cvl (fun _ => none) (icp (μ a0) (μ a) sp dp z)) = cN at X' step
  have hheap : ((T.setVm vm').setCell a cN).heap = H.setIfInBounds a cN := by rw [← hT]; rfl
  have oq : ∀ q : Nat, q ≠ a → (H.setIfInBounds a cN)[q]? = H[q]? := fun q hq => by simp [Array.getElem?_setIfInBounds, Ne.symm hq]
  have hcell' : (H.setIfInBounds a cN)[a]? = some cN := by simp [Array.getElem?_setIfInBounds, hlt]
  have hR' : Rep G S (row μ a (icp (μ a0) (μ a) sp dp z)) (H.setIfInBounds a cN) := by
    refine ⟨by rw [← R.1]; simp, R.2.1, fun q sh hq => ?_⟩
    by_cases eq : q = a
    · subst eq
      rw [hS1] at hq
      cases hq
      refine ⟨hba, Or.inr ⟨⟨.int, rfl⟩, ?_⟩⟩
      rw [hcell', ← hcell]
      simp only [row, if_true]
      rfl
    · simp only [row, if_neg eq]
      exact ⟨(R.2.2 q sh hq).1, (R.2.2 q sh hq).2.kept (oq q eq)⟩
  obtain ⟨t, a1, b1⟩ := h p e s m args below meth c (H.setIfInBounds a cN) _ ls X hR' (fun q hq => (oq q (Nat.ne_of_lt (Nat.lt_of_lt_of_le hq hba))).trans (hf q hq)) (fun x hx => by
      rcases List.mem_append.mp hx with h | h
      · exact hlc x h
      · obtain ⟨z, -, hz⟩ := List.mem_map.mp h
        rw [← hz]
        exact hba) hl _ hheap X'
  exact ⟨t, step t a1, b1⟩
/-- CODES -/
theorem v_codes (hd : At cc pc (.getstatic idx) 3 n) (hw : Cond.fieldLink F.1.cls idx "LastScale$Planner" "CODES" "[I" ∈ TBL) (h : V l G cc F P k S μ n L (.ref G.2.2.2.1 :: st)) : V l G cc F P k S μ pc L st := by
  obtain ⟨hd, rfl⟩ := hd
  intro p e s m args below meth c H locs ls X R hf hlc hl
  obtain ⟨hx, hb, hml, -, hown, -, -, hts, hK, hZ, hsz⟩ := id X
  obtain ⟨cf, kf, fi, f, a, cell, h1, h2, h3, h4, h5, h6, h7, h8⟩ := hZ.1
  exact W.gets hx hb hown (hts _ hw) h1 h2 h3 h4 (by rw [hf a (Nat.not_le.mp h8)]; exact h5) (fun e => by rw [e] at h6; cases h6) h7 rfl hd (h _ _ _ _ _ _ _ _ _ _ _ X R hf hlc hl)
theorem v_codesld {z : Int} (hd : At cc pc .iaload 1 n) (hz : 0 ≤ z ∧ z < 6) (h : V l G cc F P k S μ n L (codesV z.toNat :: st)) : V l G cc F P k S μ pc L (vi z :: .ref G.2.2.2.1 :: st) := by
  obtain ⟨hd, rfl⟩ := hd
  intro p e s m args below meth c H locs ls X R hf hlc hl
  obtain ⟨hx, hb, hml, -, hown, -, -, hts, hK, hZ, hsz⟩ := id X
  obtain ⟨cell, h1, h2, h3, h4, h5, h6, h7⟩ := hZ.2.1
  refine W.iald (v := codesV z.toNat) hx hb (by rw [hf _ (Nat.not_le.mp h7)]; exact h1) h2 h3 ?_ ?_ rfl rfl hd (h _ _ _ _ _ _ _ _ _ _ _ X R hf hlc hl)
  · rw [clamp_in (by omega), (i32_0 (by omega)).1]
    omega
  · rw [clamp_in (by omega)]
    exact h6 _ (by omega)
/-- new int[N][M] -/
def snewM (S : Sh) (N M : Nat) : Sh := (S.1 + 1 + N, fun q => if q = S.1 then some (aR 102 N (fun i => if i < N then some (S.1 + 1 + i) else none)) else if S.1 < q ∧ q < S.1 + 1 + N then some (aI M) else S.2 q)
def mnewM (S : Sh) (μ : Mu) : Mu := fun q => if S.1 ≤ q then fun _ => 0 else μ q
theorem outer_my (c : ClassId) (N h0 : Nat) : ∀ i : Nat, Jvm.Free.Multi.outerC c N h0 i = arrV c N (fun j => va_rf (if j < i then some (h0 + 1 + j) else none))
  | 0 => by
    show ({ cls := c, slots := Array.replicate N .null, vm := .none } : Cell) = _
    rw [arrV_new]
    exact congrArg (arrV c N) (funext fun j => by simp [va_rf])
  | i + 1 => by
    show (Jvm.Free.Multi.outerC c N h0 i).setSlot i (.ref (h0 + 1 + i)) = _
    rw [outer_my c N h0 i, arrV_store]
    refine congrArg (arrV c N) (funext fun j => ?_)
    by_cases e : j = i
    · subst e
      simp [updV, va_rf]
    · by_cases h : j < i
      · simp [updV, e, h, Nat.lt_succ_of_lt h]
      · simp [updV, e, h, show ¬ j < i + 1 by omega]
theorem v_newM {z w : Int} (hd : At cc pc (.multianewarray idx 2) 4 n) (hz : 0 ≤ z ∧ z ≤ 65536) (hwz : 0 ≤ w ∧ w ≤ 65536) (hm : k.1 + (1 + z.toNat) ≤ F.2.2.2.2.1 ∧ k.2 + (z.toNat + z.toNat * w.toNat) ≤ F.2.2.2.2.2) (hw : Cond.classLink F.1.cls idx "[[I" ∈ TBL) (hw2 : Cond.arrayOver (.array .int) ∈ NST) (hw3 : Cond.arrayClass .int ∈ TBL) (h : V l G cc F P (k.1 + 1 + z.toNat, k.2 + z.toNat + z.toNat * w.toNat) (snewM S z.toNat w.toNat) (mnewM S μ) n L (.ref S.1 :: st)) : V l G cc F P k S μ pc L (vi w :: vi z :: st) := by
  obtain ⟨hd, rfl⟩ := hd
  intro p e s m args below meth c H locs ls X R hf hlc hl
  obtain ⟨hx, hb, hml, -, hown, -, -, hts, hK, hZ, hsz⟩ := id X
  have q1 := clamp_in (z := z) (by omega)
  have q2 := clamp_in (z := w) (by omega)
  intro T hT X1
  obtain ⟨vm₁, cA, comp, -, fA, fC, hO, hI, X', step⟩ := X1.multianewarray2F hx (ty := .int) (n := Int32.ofInt z) (k := Int32.ofInt w) (rest := st) hown (hts _ hw) (hK.2.2 _ hw2) (hts _ hw3) (g := F0 m pc ls (vi w :: vi z :: st)) rfl (by rw [hb]; exact hd) rfl (by rw [(i32_0 (by omega)).1]; omega) (by rw [(i32_0 (by omega)).1]; omega) (by rw [q1]; omega) (by rw [q2]; show w.toNat * 4 ≤ _; omega) (by rw [q2]; omega) rfl rfl (by rw [q1]; exact hm.1) (by rw [q1, q2]; exact hm.2)
  have ec : comp = G.2.1 100 := Option.some.inj (fC.symm.trans (hK.2.1 100 .int rfl).2)
  have eA : cA = G.2.1 102 := Option.some.inj (fA.symm.trans (hK.2.1 102 (.array .int) rfl).2)
  subst ec
  subst eA
  rw [q1, q2] at X' step
  generalize hF : Jvm.Free.Multi.fill (T.setVm vm₁) (G.2.1 102) (G.2.1 100) z.toNat w.toNat (defaultValue .int) z.toNat = T2 at X' step
  have hTh : (T.setVm vm₁).heap = H := hT
  obtain ⟨f1, f2, -, -⟩ := Jvm.Free.Multi.fill_facts (T.setVm vm₁) (G.2.1 102) (G.2.1 100) z.toNat w.toNat (defaultValue .int) z.toNat
  rw [hF, hTh] at f1 f2
  have hold : ∀ x : Nat, x < S.1 → T2.heap[x]? = H[x]? := fun x hx => by
    have := Jvm.Free.Multi.fill_old (T.setVm vm₁) (G.2.1 102) (G.2.1 100) z.toNat w.toNat (defaultValue .int) (a := x) (by rw [hTh, R.1]; exact hx) z.toNat
    rw [hF, hTh] at this
    exact this
  have hrow : ∀ j : Nat, j < z.toNat → T2.heap[S.1 + 1 + j]? = some (arrV (G.2.1 100) w.toNat (fun _ => .int 0)) := fun j hj => by
    have := Jvm.Free.Multi.fill_inner (T.setVm vm₁) (G.2.1 102) (G.2.1 100) z.toNat w.toNat (defaultValue .int) z.toNat j hj
    rw [hF, hTh, R.1] at this
    rw [this]
    show some ({ cls := _, slots := Array.replicate _ _, vm := .none } : Cell) = _
    rw [arrV_new]
    rfl
  rw [outer_my, R.1] at f2
  rw [R.1] at f1
  have hR' : Rep G (snewM S z.toNat w.toNat) (mnewM S μ) T2.heap := by
    refine ⟨f1, by show _ ≤ S.1 + 1 + z.toNat; have := R.2.1; omega, fun q sh hq => ?_⟩
    by_cases e1 : q = S.1
    · subst e1
      simp only [snewM, if_true] at hq
      cases hq
      exact ⟨R.2.1, Or.inr ⟨⟨_, rfl⟩, f2⟩⟩
    · by_cases e2 : S.1 < q ∧ q < S.1 + 1 + z.toNat
      · simp only [snewM, if_neg e1, if_pos e2] at hq
        cases hq
        refine ⟨Nat.le_trans R.2.1 (Nat.le_of_lt e2.1), Or.inr ⟨⟨.int, rfl⟩, ?_⟩⟩
        have h9 := hrow (q - (S.1 + 1)) (by omega)
        rw [show S.1 + 1 + (q - (S.1 + 1)) = q by omega] at h9
        rw [h9]
        simp only [mnewM, if_pos (Nat.le_of_lt e2.1)]
        rfl
      · simp only [snewM, if_neg e1, if_neg e2] at hq
        have hq2 := R.2.2 q sh hq
        have hlt : q < S.1 := by rw [← R.1]; exact hq2.2.lt
        simp only [mnewM, if_neg (Nat.not_le.mpr hlt)]
        exact ⟨hq2.1, hq2.2.kept (hold q hlt)⟩
  rw [hTh.symm.trans (show (T.setVm vm₁).heap = T.heap from rfl)] at R
  have hs1 : T.heap.size = S.1 := R.1
  obtain ⟨t, a1, b1⟩ := h p e s m args below meth c T2.heap locs ls X hR' (fun q hq => (hold q (Nat.lt_of_lt_of_le hq R.2.1)).trans (hf q hq)) hlc hl T2 rfl X'
  refine ⟨t, step t ?_, b1⟩
  rw [hs1]
  exact a1
end R4
