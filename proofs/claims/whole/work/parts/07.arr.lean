/-! rows of the kit of whole numbers: arrays, new cells -/
def aI (N : Nat) : Shp := (100, N, fun _ => none)
def aZ (N : Nat) : Shp := (101, N, fun _ => none)
def aR (k N : Nat) (r : Nat → Option Nat) : Shp := (k, N, fun j => some (r j))
def oS (ci : Nat) (l : List (Option (Option Nat))) : Shp := (ci, l.length, fun j => l.getD j none)
theorem oS_rput {ci k : Nat} {l : List (Option (Option Nat))} {r : Option Nat} (h : k < l.length) : rput (oS ci l) k r = oS ci (l.set k (some r)) := by
  unfold rput oS
  simp only [List.length_set]
  refine congrArg (fun x => (ci, l.length, x)) (funext fun j => ?_)
  by_cases e : j = k
  · subst e
    simp [List.getD_eq_getElem?_getD, h]
  · have e2 : k ≠ j := fun q => e q.symm
    simp [List.getD_eq_getElem?_getD, e, List.getElem?_set, e2]
theorem aR_rput {k N i : Nat} {r : Nat → Option Nat} {v : Option Nat} : rput (aR k N r) i v = aR k N (fun j => if j = i then v else r j) := by
  unfold rput aR
  refine congrArg (fun x => (k, N, x)) (funext fun j => ?_)
  by_cases e : j = i <;> simp [e]
theorem clamp_in {z : Int} (h : 0 ≤ z ∧ z < 2147483648) : (Int32.ofInt z).toNatClampNeg = z.toNat := by
  show (Int32.ofInt z).toInt.toNat = z.toNat
  rw [i32_in (by omega)]
theorem in_ix {z : Int} {N : Nat} (hz : 0 ≤ z ∧ z < (N : Int)) (hN : N ≤ 65536) : ¬ (Int32.ofInt z < 0 ∨ N ≤ (Int32.ofInt z).toNatClampNeg) := by
  rw [clamp_in (by omega), (i32_0 (by omega)).1]
  omega
section R3
variable {l : Launch} {G : Glb} {cc : ByteArray} {F : Frm} {P : Pst} {k : Nat × Nat} {S : Sh} {μ : Mu} {pc n : Nat} {L st : List Value}
theorem v_iald {a N : Nat} {z : Int} (hd : At cc pc .iaload 1 n) (hS : S.2 a = some (aI N)) (hz : 0 ≤ z ∧ z < (N : Int)) (hN : N ≤ 65536) (h : V l G cc F P k S μ n L (vi (μ a z) :: st)) : V l G cc F P k S μ pc L (vi z :: .ref a :: st) := by
  obtain ⟨hd, rfl⟩ := hd
  intro p e s m args below meth c H locs ls X R hf hlc hl
  obtain ⟨hx, hb, -, -, hown, -, -, hts, hK, -⟩ := id X
  have hc := ((R.2.2 a _ hS).2).arr (k := 100) (ty := .int) rfl rfl
  refine W.iald (v := vi (μ a z)) hx hb hc ((hK.2.1 100 .int rfl).1 _ _) (fun q => by cases q) (by rw [arrV_size]; exact in_ix hz hN) ?_ rfl rfl hd (h _ _ _ _ _ _ _ _ _ _ _ X R hf hlc hl)
  rw [clamp_in (by omega)]
  exact (arrV_read _ _ (show z.toNat < N by omega)).trans (congrArg some ((cvl_i rfl).trans (by rw [show ((z.toNat : Nat) : Int) = z by omega])))
theorem v_zald {a N : Nat} {z : Int} (hd : At cc pc .baload 1 n) (hS : S.2 a = some (aZ N)) (hz : 0 ≤ z ∧ z < (N : Int)) (hN : N ≤ 65536) (h : V l G cc F P k S μ n L (vi (μ a z) :: st)) : V l G cc F P k S μ pc L (vi z :: .ref a :: st) := by
  obtain ⟨hd, rfl⟩ := hd
  intro p e s m args below meth c H locs ls X R hf hlc hl
  obtain ⟨hx, hb, -, -, hown, -, -, hts, hK, -⟩ := id X
  have hc := ((R.2.2 a _ hS).2).arr (k := 101) (ty := .boolean) rfl rfl
  refine W.zald (v := vi (μ a z)) hx hb hc ((hK.2.1 101 .boolean rfl).1 _ _) (fun q => by cases q) (by rw [arrV_size]; exact in_ix hz hN) ?_ rfl rfl hd (h _ _ _ _ _ _ _ _ _ _ _ X R hf hlc hl)
  rw [clamp_in (by omega)]
  exact (arrV_read _ _ (show z.toNat < N by omega)).trans (congrArg some ((cvl_i rfl).trans (by rw [show ((z.toNat : Nat) : Int) = z by omega])))
theorem v_aald {a kk N : Nat} {rf : Nat → Option Nat} {z : Int} {ty : FieldType} (hk : kTy kk = some ty) (hr : ty.isReference = true) (hd : At cc pc .aaload 1 n) (hS : S.2 a = some (aR kk N rf)) (hz : 0 ≤ z ∧ z < (N : Int)) (hN : N ≤ 65536) (h : V l G cc F P k S μ n L (va_rf (rf z.toNat) :: st)) : V l G cc F P k S μ pc L (vi z :: .ref a :: st) := by
  obtain ⟨hd, rfl⟩ := hd
  intro p e s m args below meth c H locs ls X R hf hlc hl
  obtain ⟨hx, hb, -, -, hown, -, -, hts, hK, -⟩ := id X
  have hc := ((R.2.2 a _ hS).2).arr rfl hk
  refine W.aald (v := va_rf (rf z.toNat)) hx hb hc ((hK.2.1 kk ty hk).1 _ _) hr (fun q => by cases q) (by rw [arrV_size]; exact in_ix hz hN) ?_ rfl rfl hd (h _ _ _ _ _ _ _ _ _ _ _ X R hf hlc hl)
  rw [clamp_in (by omega)]
  exact (arrV_read _ _ (show z.toNat < N by omega)).trans (congrArg some (cvl_r rfl))
theorem v_alen {a kk : Nat} {sh : Shp} {ty : FieldType} (hk : kTy kk = some ty) (hd : At cc pc .arraylength 1 n) (hS : S.2 a = some sh) (he : sh.1 = kk) (h : V l G cc F P k S μ n L (vi (sh.2.1 : Int) :: st)) : V l G cc F P k S μ pc L (.ref a :: st) := by
  obtain ⟨hd, rfl⟩ := hd
  intro p e s m args below meth c H locs ls X R hf hlc hl
  obtain ⟨hx, hb, -, -, hown, -, -, hts, hK, -⟩ := id X
  have hc := ((R.2.2 a _ hS).2).arr he hk
  exact W.alen (n := Int32.ofInt (sh.2.1 : Int)) hx hb hc ((hK.2.1 kk ty hk).1 _ _) (by rw [arrV_size]; rfl) rfl rfl hd (h _ _ _ _ _ _ _ _ _ _ _ X R hf hlc hl)
theorem v_st (a : Nat) {H H1 : Heap} {s : State} {G : Glb} {locs : List Loc} {j : Nat} (hba : G.2.2.1 ≤ a) (e3 : ∀ q, q ≠ a → H1[q]? = H[q]?) (hf : ∀ q : Nat, q < G.2.2.1 → H[q]? = s.heap[q]?) (hlc : ∀ x ∈ locs, G.2.2.1 ≤ x.base) : (∀ q : Nat, q < G.2.2.1 → H1[q]? = s.heap[q]?) ∧ ∀ x ∈ locs ++ [(⟨a, j⟩ : Loc)], G.2.2.1 ≤ x.base := by
  refine ⟨fun q hq => (e3 q (Nat.ne_of_lt (Nat.lt_of_lt_of_le hq hba))).trans (hf q hq), fun x hx => ?_⟩
  rcases List.mem_append.mp hx with hx | hx
  · exact hlc x hx
  · rw [List.mem_singleton.mp hx]; exact hba
theorem v_iast {a N : Nat} {z x : Int} (hd : At cc pc .iastore 1 n) (hS : S.2 a = some (aI N)) (hz : 0 ≤ z ∧ z < (N : Int)) (hN : N ≤ 65536) (h : V l G cc F P k S (upd2 μ a z x) n L st) : V l G cc F P k S μ pc L (vi x :: vi z :: .ref a :: st) := by
  obtain ⟨hd, rfl⟩ := hd
  intro p e s m args below meth c H locs ls X R hf hlc hl
  obtain ⟨hx, hb, -, -, hown, -, -, hts, hK, -⟩ := id X
  have hc := ((R.2.2 a _ hS).2).arr (k := 100) (ty := .int) rfl rfl
  refine W.iast hx hb hc ((hK.2.1 100 .int rfl).1 _ _) (fun q => by cases q) (by rw [arrV_size]; exact in_ix hz hN) rfl rfl hd fun H1 e1 e2 e3 => ?_
  have hv := v_st a (j := (Int32.ofInt z).toNatClampNeg) (R.2.2 a _ hS).1 e3 hf hlc
  refine h _ _ _ _ _ _ _ _ H1 _ _ X ?_ hv.1 hv.2 hl
  rw [clamp_in (by omega)] at e1
  have ez : ((z.toNat : Nat) : Int) = z := by omega
  rw [← ez]
  refine R.upd hS e2 e3 (Or.inr ⟨⟨.int, rfl⟩, e1.trans ?_⟩)
  show some ((arrV _ _ _).setSlot _ (vi x)) = _
  rw [arrV_store]
  exact congrArg (fun f => some (arrV (G.2.1 100) N f)) (funext fun i => cvl_upd rfl i)
theorem v_zast {a N : Nat} {z x : Int} (hd : At cc pc .bastore 1 n) (hS : S.2 a = some (aZ N)) (hz : 0 ≤ z ∧ z < (N : Int)) (hN : N ≤ 65536) (hb01 : x = 0 ∨ x = 1) (h : V l G cc F P k S (upd2 μ a z x) n L st) : V l G cc F P k S μ pc L (vi x :: vi z :: .ref a :: st) := by
  obtain ⟨hd, rfl⟩ := hd
  intro p e s m args below meth c H locs ls X R hf hlc hl
  obtain ⟨hx, hb, -, -, hown, -, -, hts, hK, -⟩ := id X
  have hc := ((R.2.2 a _ hS).2).arr (k := 101) (ty := .boolean) rfl rfl
  refine W.zast hx hb hc ((hK.2.1 101 .boolean rfl).1 _ _) (fun q => by cases q) (by rw [arrV_size]; exact in_ix hz hN) rfl rfl hd fun H1 e1 e2 e3 => ?_
  have hv := v_st a (j := (Int32.ofInt z).toNatClampNeg) (R.2.2 a _ hS).1 e3 hf hlc
  refine h _ _ _ _ _ _ _ _ H1 _ _ X ?_ hv.1 hv.2 hl
  have hnar : narrow .boolean (.int (Int32.ofInt x)) = vi x := by rcases hb01 with rfl | rfl <;> rfl
  rw [clamp_in (by omega), hnar] at e1
  have ez : ((z.toNat : Nat) : Int) = z := by omega
  rw [← ez]
  refine R.upd hS e2 e3 (Or.inr ⟨⟨.boolean, rfl⟩, e1.trans ?_⟩)
  rw [arrV_store]
  exact congrArg (fun f => some (arrV (G.2.1 101) N f)) (funext fun i => cvl_upd rfl i)
theorem v_aast {a kk N v ci : Nat} {rf : Nat → Option Nat} {z : Int} {C : String} {shv : Shp} {r : vw_C} (hk : kTy kk = some (.object C)) (hr : vwCl[ci]? = some r) (hC : r.1 = C) (hd : At cc pc .aastore 1 n) (hS : S.2 a = some (aR kk N rf)) (hv : S.2 v = some shv) (hci : shv.1 = ci) (hz : 0 ≤ z ∧ z < (N : Int)) (hN : N ≤ 65536) (h : V l G cc F P k (sput S a (aR kk N (fun j => if j = z.toNat then some v else rf j))) μ n L st) : V l G cc F P k S μ pc L (.ref v :: vi z :: .ref a :: st) := by
  obtain ⟨hd, rfl⟩ := hd
  intro p e s m args below meth c H locs ls X R hf hlc hl
  obtain ⟨hx, hb, -, -, hown, -, -, hts, hK, -⟩ := id X
  have hc := ((R.2.2 a _ hS).2).arr rfl hk
  obtain ⟨cellV, g1, g2, g3, -⟩ := ((R.2.2 v _ hv).2).obj hci hr
  have hcls := (hK.1 ci r hr).2
  subst hC
  obtain ⟨kA, comp, k1, k2, k3, -⟩ := (hK.2.1 kk _ hk).2
  have hcomp : comp = G.1.1 ci := Option.some.inj (k3.symm.trans hcls.1)
  subst hcomp
  obtain ⟨kC, hkC, -⟩ := hcls.2
  have hin := in_ix hz hN
  refine W.aast hx hb hc (fun q h => by cases h) (fun h => by cases h) k1 k2 rfl hkC ⟨fun q => hin (Or.inl q), by rw [arrV_size]; exact Nat.not_le.mp fun q => hin (Or.inr q)⟩ g1 (fun q h => by rw [g3] at h; cases h) (by rw [g2]; exact hkC) (by rw [g2]; exact va_assign hcls) rfl rfl hd fun H1 e1 e2 e3 => ?_
  have hvv := v_st a (j := (Int32.ofInt z).toNatClampNeg) (R.2.2 a _ hS).1 e3 hf hlc
  refine h _ _ _ _ _ _ _ _ H1 _ _ X ?_ hvv.1 hvv.2 hl
  rw [clamp_in (by omega)] at e1
  rw [← aR_rput]
  refine R.rupd hS e2 e3 (Or.inr ⟨⟨_, hk⟩, e1.trans ?_⟩)
  rw [arrV_store]
  exact congrArg (fun f => some (arrV (G.2.1 kk) N f)) (funext fun i => cvl_rput (sh := aR kk N rf) (r := some v) i)
theorem v_fr {H H1 : Heap} {s : State} {G : Glb} {S : Sh} {μ : Mu} (R : Rep G S μ H) (o1 : ∀ q, q < S.1 → H1[q]? = H[q]?) (hf : ∀ q : Nat, q < G.2.2.1 → H[q]? = s.heap[q]?) : ∀ q : Nat, q < G.2.2.1 → H1[q]? = s.heap[q]? := fun q hq => (o1 q (Nat.lt_of_lt_of_le hq R.2.1)).trans (hf q hq)
theorem v_newI {z : Int} (hd : At cc pc (.newarray .int) 2 n) (hz : 0 ≤ z ∧ z ≤ 65536) (hm : k.1 + 1 ≤ F.2.2.2.2.1 ∧ k.2 + z.toNat ≤ F.2.2.2.2.2) (hw : Cond.arrayClass .int ∈ TBL) (h : V l G cc F P (k.1 + 1, k.2 + z.toNat) (snew S (aI z.toNat)) (mnew S μ) n L (.ref S.1 :: st)) : V l G cc F P k S μ pc L (vi z :: st) := by
  obtain ⟨hd, rfl⟩ := hd
  intro p e s m args below meth c H locs ls X R hf hlc hl
  obtain ⟨hx, hb, -, -, hown, -, -, hts, hK, -⟩ := id X
  refine va_newaK (atype := .int) (h := S.1) hx hb (hts _ hw) rfl hd rfl (by rw [(i32_0 (by omega)).1]; omega) (clamp_in (by omega)) (by show z.toNat * 4 ≤ _; omega) hm.1 hm.2 R.1 fun H1 cA e1 z1 o1 hAr hNm => ?_
  have hcA : cA = G.2.1 100 := Option.some.inj (hNm.symm.trans (hK.2.1 100 .int rfl).2)
  subst hcA
  exact h _ _ _ _ _ _ _ _ H1 _ _ X (R.new z1 o1 (Or.inr ⟨⟨.int, rfl⟩, e1⟩)) (v_fr R o1 hf) hlc hl
theorem v_newZ {z : Int} (hd : At cc pc (.newarray .boolean) 2 n) (hz : 0 ≤ z ∧ z ≤ 65536) (hm : k.1 + 1 ≤ F.2.2.2.2.1 ∧ k.2 + z.toNat ≤ F.2.2.2.2.2) (hw : Cond.arrayClass .boolean ∈ TBL) (h : V l G cc F P (k.1 + 1, k.2 + z.toNat) (snew S (aZ z.toNat)) (mnew S μ) n L (.ref S.1 :: st)) : V l G cc F P k S μ pc L (vi z :: st) := by
  obtain ⟨hd, rfl⟩ := hd
  intro p e s m args below meth c H locs ls X R hf hlc hl
  obtain ⟨hx, hb, -, -, hown, -, -, hts, hK, -⟩ := id X
  refine va_newaK (atype := .boolean) (h := S.1) hx hb (hts _ hw) rfl hd rfl (by rw [(i32_0 (by omega)).1]; omega) (clamp_in (by omega)) (by show z.toNat * 1 ≤ _; omega) hm.1 hm.2 R.1 fun H1 cA e1 z1 o1 hAr hNm => ?_
  have hcA : cA = G.2.1 101 := Option.some.inj (hNm.symm.trans (hK.2.1 101 .boolean rfl).2)
  subst hcA
  exact h _ _ _ _ _ _ _ _ H1 _ _ X (R.new z1 o1 (Or.inr ⟨⟨.boolean, rfl⟩, e1⟩)) (v_fr R o1 hf) hlc hl
theorem v_newR {z : Int} {kk idx : Nat} {C : String} (hd : At cc pc (.anewarray idx) 3 n) (hk : kTy kk = some (.object C)) (hz : 0 ≤ z ∧ z ≤ 65536) (hm : k.1 + 1 ≤ F.2.2.2.2.1 ∧ k.2 + z.toNat ≤ F.2.2.2.2.2) (hw : Cond.classLink F.1.cls idx C ∈ TBL) (hw2 : Cond.arrayOver (.object C) ∈ NST) (h : V l G cc F P (k.1 + 1, k.2 + z.toNat) (snew S (aR kk z.toNat (fun _ => none))) (mnew S μ) n L (.ref S.1 :: st)) : V l G cc F P k S μ pc L (vi z :: st) := by
  obtain ⟨hd, rfl⟩ := hd
  intro p e s m args below meth c H locs ls X R hf hlc hl
  obtain ⟨hx, hb, -, -, hown, -, -, hts, hK, -⟩ := id X
  refine W.anew hx hb hown (hts _ hw) (hK.2.2 _ hw2) rfl hd rfl (by rw [(i32_0 (by omega)).1]; omega) (by rw [clamp_in (by omega)]; omega) hm.1 (by rw [clamp_in (by omega)]; exact hm.2) fun cA kA comp f1 f2 f3 f4 => ?_
  rw [clamp_in (by omega)]
  obtain ⟨kA', comp', g1, g2, g3, g4⟩ := (hK.2.1 kk _ hk).2
  have hcA : cA = G.2.1 kk := Option.some.inj (f1.symm.trans g4)
  subst hcA
  generalize hH1 : H.push ({ cls := G.2.1 kk, slots := Array.replicate z.toNat .null, vm := .none } : Cell) = H1
  have z1 : H1.size = S.1 + 1 := by rw [← hH1, Array.size_push, R.1]
  have e1 : H1[S.1]? = some (arrV (G.2.1 kk) z.toNat (fun _ => .null)) := by rw [← R.1, ← hH1, Array.getElem?_push_size, ← arrV_new]
  have o1 : ∀ q : Nat, q < S.1 → H1[q]? = H[q]? := fun q hq => by rw [← hH1, Array.getElem?_push, if_neg (by rw [R.1]; exact Nat.ne_of_lt hq)]
  rw [R.1]
  exact h _ _ _ _ _ _ _ _ H1 _ _ X (R.new z1 o1 (Or.inr ⟨⟨_, hk⟩, e1⟩)) (v_fr R o1 hf) hlc hl
theorem v_new {idx ci : Nat} {r : vw_C} {sl : List (Option (Option Nat))} (hd : At cc pc (.new idx) 3 n) (hr : vwCl[ci]? = some r) (hN : sl.length = r.2.2) (hdf : ∀ j, j < r.2.2 → (parseFieldDescriptor (r.2.1 j).2.2.1).map defaultValue = some (cvl (oS ci sl).2.2 (fun _ => 0) j)) (hm : k.1 + 1 ≤ F.2.2.2.2.1 ∧ k.2 + r.2.2 ≤ F.2.2.2.2.2) (hw : Cond.classLink F.1.cls idx r.1 ∈ TBL) (hw2 : Cond.instantiable r.1 r.2.2 ∈ TBL) (hw3 : Cond.initialized r.1 ∈ TBL) (h : V l G cc F P (k.1 + 1, k.2 + r.2.2) (snew S (oS ci sl)) (mnew S μ) n L (.ref S.1 :: st)) : V l G cc F P k S μ pc L st := by
  obtain ⟨hd, rfl⟩ := hd
  intro p e s m args below meth c H locs ls X R hf hlc hl
  obtain ⟨hx, hb, -, -, hown, -, -, hts, hK, -⟩ := id X
  obtain ⟨hin, ⟨ty0, hty0⟩, hnm⟩ := cl_ok hr
  have hKn := hK.1 ci _ hr
  refine W.newcK (h := S.1) hx hb hown (hts _ hw) (hts _ hw2) (hts _ hw3) rfl hd hm.1 hm.2 hKn.2.1 R.1 fun H1 kC hkC e1 z1 o1 => ?_
  refine h _ _ _ _ _ _ _ _ H1 _ _ X (R.new z1 o1 (Or.inl ⟨r, hr, (u_born ty0 hts hin hKn hkC e1 hty0).to fun j hj => ?_⟩)) (v_fr R o1 hf) hlc hl
  have := hdf j hj
  rw [hty0 j hj] at this
  exact Option.some.inj this
theorem v_objInit {a idx : Nat} (hd : At cc pc (.invokespecial idx) 3 n) (hw : Cond.methodLink F.1.cls idx objectInit ∈ TBL) (hw2 : Cond.instanceMethod objectInit ∈ TBL) (hw3 : Cond.code objectInit ⟨#[0xb1]⟩ 1 none ∈ TBL) (hfr : 1 ≤ F.2.2.2.1) (hst : (st.map fun v => v.category).sum ≤ 8) (h : V l G cc F P k S μ n L st) : V l G cc F P k S μ pc L (.ref a :: st) := by
  obtain ⟨hd, rfl⟩ := hd
  intro p e s m args below meth c H locs ls X R hf hlc hl
  obtain ⟨hx, hb, hml, -, hown, -, -, hts, hK, -⟩ := id X
  exact W.objInit hx hb hown (hts _ hw) (hts _ hw2) (hts _ hw3) rfl (by rw [hml]; exact hl.1.1) rfl hd hfr (by show 2 * 0 + _ + 12 ≤ 60 * _; omega) (h _ _ _ _ _ _ _ _ _ _ _ X R hf hlc hl)
end R3
