/-! rows of the kit of whole numbers that read and write cells, and calls -/
theorem upd2_same {μ : Mu} {a : Nat} {z x : Int} : upd2 μ a z x a z = x := by simp [upd2]
theorem upd2_row {μ : Mu} {a q : Nat} {z x : Int} (h : q ≠ a) : upd2 μ a z x q = μ q := by funext i; simp [upd2, h]
theorem cvl_upd {rf : Nat → Option (Option Nat)} {μ : Mu} {a j : Nat} {x : Int} (hj : rf j = none) (i : Nat) : updV (cvl rf (μ a)) j (vi x) i = cvl rf (upd2 μ a (j : Int) x a) i := by
  by_cases h : i = j
  · subst h
    simp [updV, cvl, hj, upd2]
  · have h2 : ¬ (i : Int) = (j : Int) := by omega
    simp [updV, cvl, upd2, h, h2]
theorem cvl_rput {sh : Shp} {g : Int → Int} {j : Nat} {r : Option Nat} (i : Nat) : updV (cvl sh.2.2 g) j (va_rf r) i = cvl (rput sh j r).2.2 g i := by
  by_cases h : i = j
  · subst h
    simp [updV, cvl, rput]
  · simp [updV, cvl, rput, h]
theorem Rep.upd {G : Glb} {S : Sh} {μ : Mu} {H H1 : Heap} {a j : Nat} {x : Int} {sh : Shp} (h : Rep G S μ H) (ha : S.2 a = some sh) (z : H1.size = H.size) (oq : ∀ q, q ≠ a → H1[q]? = H[q]?) (hc : celA G a sh (upd2 μ a (j : Int) x a) H1) : Rep G S (upd2 μ a (j : Int) x) H1 := by
  refine ⟨by rw [z]; exact h.1, h.2.1, fun q s hq => ?_⟩
  by_cases e : q = a
  · subst e
    rw [ha] at hq
    cases hq
    exact ⟨(h.2.2 q sh ha).1, hc⟩
  · rw [upd2_row e]
    exact ⟨(h.2.2 q s hq).1, (h.2.2 q s hq).2.kept (oq q e)⟩
theorem Rep.rupd {G : Glb} {S : Sh} {μ : Mu} {H H1 : Heap} {a : Nat} {sh sh' : Shp} (h : Rep G S μ H) (ha : S.2 a = some sh) (z : H1.size = H.size) (oq : ∀ q, q ≠ a → H1[q]? = H[q]?) (hc : celA G a sh' (μ a) H1) : Rep G (sput S a sh') μ H1 := by
  refine ⟨by rw [z]; exact h.1, h.2.1, fun q s hq => ?_⟩
  by_cases e : q = a
  · subst e
    simp only [sput, if_true] at hq
    cases hq
    exact ⟨(h.2.2 q sh ha).1, hc⟩
  · simp only [sput, if_neg e] at hq
    exact ⟨(h.2.2 q s hq).1, (h.2.2 q s hq).2.kept (oq q e)⟩
theorem Rep.new {G : Glb} {S : Sh} {μ : Mu} {H H1 : Heap} {sh : Shp} (h : Rep G S μ H) (z : H1.size = S.1 + 1) (oq : ∀ q, q < S.1 → H1[q]? = H[q]?) (hc : celA G S.1 sh (fun _ => 0) H1) : Rep G (snew S sh) (mnew S μ) H1 := by
  refine ⟨z, Nat.le_succ_of_le h.2.1, fun q s hq => ?_⟩
  by_cases e : q = S.1
  · subst e
    simp only [snew, if_true] at hq
    cases hq
    simp only [mnew, if_true]
    exact ⟨h.2.1, hc⟩
  · simp only [snew, if_neg e] at hq
    have hq2 := h.2.2 q s hq
    have hlt : q < S.1 := by rw [← h.1]; exact hq2.2.lt
    simp only [mnew, if_neg e]
    exact ⟨hq2.1, hq2.2.kept (oq q hlt)⟩
/-- a field: link, class and place -/
def Fl (o : String) (idx ci k : Nat) : Prop := ∃ r : vw_C, vwCl[ci]? = some r ∧ k < r.2.2 ∧ (Cond.fieldLink o idx (r.2.1 k).1 (r.2.1 k).2.1 (r.2.1 k).2.2.1 ∈ TBL ∨ ∃ h, Cond.fieldLinkNest o idx (r.2.1 k).1 (r.2.1 k).2.1 (r.2.1 k).2.2.1 h ∈ NST)
def FlO (o : String) (idx ci k : Nat) : Prop := ∃ r : vw_C, vwCl[ci]? = some r ∧ k < r.2.2 ∧ Cond.fieldLink o idx (r.2.1 k).1 (r.2.1 k).2.1 (r.2.1 k).2.2.1 ∈ TBL
theorem FlO.fl {o : String} {idx ci k : Nat} (h : FlO o idx ci k) : Fl o idx ci k := by
  obtain ⟨r, h1, h2, h3⟩ := h
  exact ⟨r, h1, h2, Or.inl h3⟩
/-- the classes: words, types, names -/
theorem cl_ok {ci : Nat} {r : vw_C} (h : vwCl[ci]? = some r) : (∀ w ∈ u_ws r.1 r.2.1 r.2.2, w ∈ TBL) ∧ (∃ ty : Nat → FieldType, ∀ k, k < r.2.2 → parseFieldDescriptor (r.2.1 k).2.2.1 = some (ty k)) ∧ (∀ a, a < r.2.2 → ∀ b, b < r.2.2 → a ≠ b → (r.2.1 a).2.1 ≠ (r.2.1 b).2.1) := by
  have hl := vwCl_lt h
  match ci, hl, h with
  | 0, _, h => cases h; exact ⟨inX0, ⟨_, tyX0_ok⟩, nmX0⟩
  | 1, _, h => cases h; exact ⟨inX1, ⟨_, tyX1_ok⟩, nmX1⟩
  | 2, _, h => cases h; exact ⟨inX2, ⟨_, tyX2_ok⟩, nmX2⟩
  | 3, _, h => cases h; exact ⟨inX3, ⟨_, tyX3_ok⟩, nmX3⟩
  | 4, _, h => cases h; exact ⟨inX4, ⟨_, tyX4_ok⟩, nmX4⟩
  | 5, _, h => cases h; exact ⟨inX5, ⟨_, tyX5_ok⟩, nmX5⟩
  | 6, _, h => cases h; exact ⟨inX6, ⟨_, tyX6_ok⟩, nmX6⟩
  | 7, _, h => cases h; exact ⟨inX7, ⟨_, tyX7_ok⟩, nmX7⟩
  | 8, _, h => cases h; exact ⟨inX8, ⟨_, tyX8_ok⟩, nmX8⟩
  | n + 9, hl, _ => omega
/-- a cell as the kit's world of one -/
theorem one_P {G : Glb} {q : Nat} {ci : Nat} {rf : Nat → Option (Option Nat)} {g : Int → Int} {H : Heap} {r : vw_C} (hr : vwCl[ci]? = some r) (h : t_OB q (G.1.1 ci) r.2.2 (G.1.2 ci) H (cvl rf g)) : va_P G.1 vwCl [(q, .inr (ci, (List.range r.2.2).map (cvl rf g)))] H := by
  intro k x hx
  have hz : k < 1 := (List.getElem?_eq_some_iff.mp hx).1
  rw [show k = 0 by omega] at hx
  cases hx
  exact ⟨r, hr, h.to fun j hj => by simp [vp_V, hj]⟩
theorem one_v {N k : Nat} {f : Nat → Value} (h : k < N) : ((List.range N).map f)[k]? = some (f k) := by simp [h]
section R2
variable {l : Launch} {G : Glb} {cc : ByteArray} {F : Frm} {P : Pst} {k : Nat × Nat} {S : Sh} {μ : Mu} {pc n : Nat} {L st : List Value}
theorem v_get {a idx ci f : Nat} {sh : Shp} (hd : At cc pc (.getfield idx) 3 n) (hF : Fl F.1.cls idx ci f) (hS : S.2 a = some sh) (hk : sh.1 = ci) (h : V l G cc F P k S μ n L (cvl sh.2.2 (μ a) f :: st)) : V l G cc F P k S μ pc L (.ref a :: st) := by
  obtain ⟨hd, rfl⟩ := hd
  obtain ⟨r, hr, hlt, hw⟩ := hF
  intro p e s m args below meth c H locs ls X R hf hlc hl
  obtain ⟨hx, hb, -, -, hown, -, -, hts, hK, -⟩ := id X
  have ho := ((R.2.2 a sh hS).2).obj hk hr
  have hP := one_P hr ho
  have hK' : va_K G.1 vwCl [] s := ⟨hK.1, fun k q h => by simp at h⟩
  have hv := one_v (f := cvl sh.2.2 (μ a)) hlt
  rcases hw with hw | ⟨ho, hw⟩
  · exact va_get hx hb hts (cl_ok hr).1 hown hK' hP 0 rfl hr f hlt (hts _ hw) (fun _ h => h) hv hd (h _ _ _ _ _ _ _ _ _ _ _ X R hf hlc hl)
  · exact va_getN hx hb hts (cl_ok hr).1 hown hK' hP 0 rfl hr f hlt (va_Nw.use rfl (hK.2.2 _ hw)) (fun _ h => h) hv hd (h _ _ _ _ _ _ _ _ _ _ _ X R hf hlc hl)
theorem v_geti {a idx ci f : Nat} {sh : Shp} (hd : At cc pc (.getfield idx) 3 n) (hF : Fl F.1.cls idx ci f) (hS : S.2 a = some sh) (hk : sh.1 = ci) (hi : sh.2.2 f = none) (h : V l G cc F P k S μ n L (vi (μ a (f : Int)) :: st)) : V l G cc F P k S μ pc L (.ref a :: st) :=
  v_get hd hF hS hk (by rw [cvl_i hi]; exact h)
theorem v_getr {a idx ci f q : Nat} {sh : Shp} (hd : At cc pc (.getfield idx) 3 n) (hF : Fl F.1.cls idx ci f) (hS : S.2 a = some sh) (hk : sh.1 = ci) (hi : sh.2.2 f = some (some q)) (h : V l G cc F P k S μ n L (.ref q :: st)) : V l G cc F P k S μ pc L (.ref a :: st) :=
  v_get hd hF hS hk (by rw [cvl_r hi]; exact h)
/-- the value may be stored in the field -/
def Ok (ci f : Nat) (v : Value) : Prop := ∃ (r : vw_C) (ty : FieldType), vwCl[ci]? = some r ∧ parseFieldDescriptor (r.2.1 f).2.2.1 = some ty ∧ narrow ty v = v ∧ fits ty v = true
def Nf (ci f : Nat) : Prop := ∃ r : vw_C, vwCl[ci]? = some r ∧ (r.2.1 f).2.2.2 = false
def Fin (o : String) (ci f : Nat) : Prop := ∃ r : vw_C, vwCl[ci]? = some r ∧ (r.2.1 f).2.2.2 = true ∧ (r.2.1 f).1 = o
theorem v_put0 {a idx ci f : Nat} {sh : Shp} {v : Value} (hd : At cc pc (.putfield idx) 3 n) (hF : Fl F.1.cls idx ci f) (hN : Nf ci f) (hO : Ok ci f v) (hS : S.2 a = some sh) (hk : sh.1 = ci)
    {S' : Sh} {μ' : Mu} (hR : ∀ H H1 : Heap, Rep G S μ H → H1.size = H.size → (∀ q, q ≠ a → H1[q]? = H[q]?) → (∃ r : vw_C, vwCl[ci]? = some r ∧ t_OB a (G.1.1 ci) r.2.2 (G.1.2 ci) H1 (updV (cvl sh.2.2 (μ a)) f v)) → Rep G S' μ' H1) (h : V l G cc F P k S' μ' n L st) : V l G cc F P k S μ pc L (v :: .ref a :: st) := by
  obtain ⟨hd, rfl⟩ := hd
  obtain ⟨r, hr, hlt, hw⟩ := hF
  obtain ⟨r2, hr2, hfin⟩ := hN
  cases Option.some.inj (hr.symm.trans hr2)
  obtain ⟨r3, ty, hr3, hty, hn, hfit⟩ := hO
  cases Option.some.inj (hr.symm.trans hr3)
  intro p e s m args below meth c H locs ls X R hf hlc hl
  obtain ⟨hx, hb, -, -, hown, -, -, hts, hK, -⟩ := id X
  obtain ⟨hin, ⟨ty0, hty0⟩, hnm⟩ := cl_ok hr
  have hK' : va_K G.1 vwCl [] s := ⟨hK.1, fun k q h => by simp at h⟩
  have hap := va_apart (own := r.1) hts hin ty0 hty0 hnm hK' hr
  obtain ⟨cell, q1, q2, q3, q4⟩ := ((R.2.2 a sh hS).2).obj hk hr
  obtain ⟨hSl, hfc, kC, hkC, hkind⟩ := hK.1 ci _ hr
  obtain ⟨cf, kf, fi, fd, hi, hsl⟩ := hSl f hlt
  have hlay := hts _ (hin _ (u_in_lay hlt))
  unfold u_lay at hlay
  rw [if_neg (by rw [hfin]; decide)] at hlay
  have hst := (u_facts hfc hkC (u_lays hts hin hlt) hi).1
  have h6 := u_store hfc hkC hkind hlay hi hty hn hfit
  have fin : ∀ H' : Heap, H'[a]? = some (cell.setSlot fd.slot v) → H'.size = H.size → (∀ q, q ≠ a → H'[q]? = H[q]?) → W p l e (rmo F.2.2.2.1 F.2.2.2.2.1 F.2.2.2.2.2) s m args below meth c H' (locs ++ [⟨a, fd.slot⟩]) k.1 k.2 (MQ below (VQ G P) args s F.2.2.2.2.1 F.2.2.2.2.2 (fun q => G.2.2.1 ≤ q)) (F0 m (pc + 3) ls st) := by
    intro H' e1 e2 e3
    rw [hsl] at e1
    have hba := (R.2.2 a sh hS).1
    refine h _ _ _ _ _ _ _ _ H' _ _ X (hR H H' R e2 e3 ⟨r, hr, _, e1, q2, q3, t_set q4 hap hlt v⟩) (fun q hq => (e3 q (Nat.ne_of_lt (Nat.lt_of_lt_of_le hq hba))).trans (hf q hq)) (fun x hx => ?_) hl
    rcases List.mem_append.mp hx with hx | hx
    · exact hlc x hx
    · rw [List.mem_singleton.mp hx]; exact hba
  rcases hw with hw | ⟨ho, hw⟩
  · exact W.putK hx hb (f := fd) ⟨hown, hts _ hw, ⟨_, _, _, hi⟩, hst⟩ (by rw [q2]; exact h6) q1 q3 (by rw [hsl]; exact k2_hasslot (q4 f hlt)) rfl rfl hd fin
  · exact va_WputK hx hb (f := fd) hown (va_Nw.use rfl (hK.2.2 _ hw)) hi hst (by rw [q2]; exact h6) q1 q3 (by rw [hsl]; exact k2_hasslot (q4 f hlt)) rfl rfl hd fin
theorem v_putF0 {a idx ci f : Nat} {sh : Shp} {v : Value} (hd : At cc pc (.putfield idx) 3 n) (hF : FlO F.1.cls idx ci f) (hN : Fin F.1.cls ci f) (hO : Ok ci f v) (hin2 : F.1.name = "<init>") (hS : S.2 a = some sh) (hk : sh.1 = ci)
    {S' : Sh} {μ' : Mu} (hR : ∀ H H1 : Heap, Rep G S μ H → H1.size = H.size → (∀ q, q ≠ a → H1[q]? = H[q]?) → (∃ r : vw_C, vwCl[ci]? = some r ∧ t_OB a (G.1.1 ci) r.2.2 (G.1.2 ci) H1 (updV (cvl sh.2.2 (μ a)) f v)) → Rep G S' μ' H1) (h : V l G cc F P k S' μ' n L st) : V l G cc F P k S μ pc L (v :: .ref a :: st) := by
  obtain ⟨hd, rfl⟩ := hd
  obtain ⟨r, hr, hlt, hw⟩ := hF
  obtain ⟨r2, hr2, hfin, hdecl⟩ := hN
  cases Option.some.inj (hr.symm.trans hr2)
  obtain ⟨r3, ty, hr3, hty, hn, hfit⟩ := hO
  cases Option.some.inj (hr.symm.trans hr3)
  intro p e s m args below meth c H locs ls X R hf hlc hl
  obtain ⟨hx, hb, -, -, hown, -, hname, hts, hK, -⟩ := id X
  obtain ⟨hin, ⟨ty0, hty0⟩, hnm⟩ := cl_ok hr
  have hK' : va_K G.1 vwCl [] s := ⟨hK.1, fun k q h => by simp at h⟩
  have hap := va_apart (own := r.1) hts hin ty0 hty0 hnm hK' hr
  obtain ⟨cell, q1, q2, q3, q4⟩ := ((R.2.2 a sh hS).2).obj hk hr
  obtain ⟨hSl, hfc, kC, hkC, hkind⟩ := hK.1 ci _ hr
  obtain ⟨cf, kf, fi, fd, hi, hsl⟩ := hSl f hlt
  have hlay := hts _ (hin _ (u_in_lay hlt))
  unfold u_lay at hlay
  rw [if_pos hfin] at hlay
  have hst := (u_facts hfc hkC (u_lays hts hin hlt) hi).1
  have hcf : m.cls = cf := by
    obtain ⟨_, _, c', _, _, _, -, -, hf', -, -, -, hown2, -⟩ := Cond.laysFinal_spec hlay
    have e1 : c' = cf := by have := hi.symm.trans hf'; simp at this; exact this.1.symm
    rw [hdecl] at hown2
    rw [← e1]; exact Option.some.inj (hown.symm.trans hown2)
  have h6 := u_fits hfc hkC hkind (Or.inr hlay) hi hty hn hfit
  · refine W.putFinK hx hb hown (hts _ hw) hi hst hcf (hname.trans hin2) (by rw [q2]; exact h6) q1 q3 (by rw [hsl]; exact k2_hasslot (q4 f hlt)) rfl rfl hd fun H' e1 e2 e3 => ?_
    rw [hsl] at e1 ⊢
    have hba := (R.2.2 a sh hS).1
    refine h _ _ _ _ _ _ _ _ H' _ _ X (hR H H' R e2 e3 ⟨r, hr, _, e1, q2, q3, t_set q4 hap hlt v⟩) (fun q hq => (e3 q (Nat.ne_of_lt (Nat.lt_of_lt_of_le hq hba))).trans (hf q hq)) (fun x hx => ?_) hl
    rcases List.mem_append.mp hx with hx | hx
    · exact hlc x hx
    · rw [List.mem_singleton.mp hx]; exact hba
theorem rep_i {S : Sh} {μ : Mu} {a ci f : Nat} {sh : Shp} {x : Int} (hS : S.2 a = some sh) (hk : sh.1 = ci) (hi : sh.2.2 f = none) : ∀ H H1 : Heap, Rep G S μ H → H1.size = H.size → (∀ q, q ≠ a → H1[q]? = H[q]?) → (∃ r : vw_C, vwCl[ci]? = some r ∧ t_OB a (G.1.1 ci) r.2.2 (G.1.2 ci) H1 (updV (cvl sh.2.2 (μ a)) f (vi x))) → Rep G S (upd2 μ a (f : Int) x) H1 := by
  subst hk
  rintro H H1 R e2 e3 ⟨r, hr, ho⟩
  exact R.upd hS e2 e3 (Or.inl ⟨r, hr, ho.to fun j _ => cvl_upd hi j⟩)
theorem rep_r {S : Sh} {μ : Mu} {a ci f : Nat} {sh : Shp} {x : Option Nat} (hS : S.2 a = some sh) (hk : sh.1 = ci) : ∀ H H1 : Heap, Rep G S μ H → H1.size = H.size → (∀ q, q ≠ a → H1[q]? = H[q]?) → (∃ r : vw_C, vwCl[ci]? = some r ∧ t_OB a (G.1.1 ci) r.2.2 (G.1.2 ci) H1 (updV (cvl sh.2.2 (μ a)) f (va_rf x))) → Rep G (sput S a (rput sh f x)) μ H1 := by
  subst hk
  rintro H H1 R e2 e3 ⟨r, hr, ho⟩
  exact R.rupd hS e2 e3 (Or.inl ⟨r, hr, ho.to fun j _ => cvl_rput j⟩)
/-- a number into a field -/
theorem v_put {a idx ci f : Nat} {sh : Shp} {x : Int} (hd : At cc pc (.putfield idx) 3 n) (hF : Fl F.1.cls idx ci f) (hN : Nf ci f) (hO : Ok ci f (vi x)) (hS : S.2 a = some sh) (hk : sh.1 = ci) (hi : sh.2.2 f = none) (h : V l G cc F P k S (upd2 μ a (f : Int) x) n L st) : V l G cc F P k S μ pc L (vi x :: .ref a :: st) :=
  v_put0 hd hF hN hO hS hk (rep_i hS hk hi) h
theorem v_putF {a idx ci f : Nat} {sh : Shp} {x : Int} (hd : At cc pc (.putfield idx) 3 n) (hF : FlO F.1.cls idx ci f) (hN : Fin F.1.cls ci f) (hO : Ok ci f (vi x)) (hin2 : F.1.name = "<init>") (hS : S.2 a = some sh) (hk : sh.1 = ci) (hi : sh.2.2 f = none) (h : V l G cc F P k S (upd2 μ a (f : Int) x) n L st) : V l G cc F P k S μ pc L (vi x :: .ref a :: st) :=
  v_putF0 hd hF hN hO hin2 hS hk (rep_i hS hk hi) h
theorem v_putFr {a q idx ci f : Nat} {sh : Shp} (hd : At cc pc (.putfield idx) 3 n) (hF : FlO F.1.cls idx ci f) (hN : Fin F.1.cls ci f) (hO : Ok ci f (.ref q)) (hin2 : F.1.name = "<init>") (hS : S.2 a = some sh) (hk : sh.1 = ci) (h : V l G cc F P k (sput S a (rput sh f (some q))) μ n L st) : V l G cc F P k S μ pc L (.ref q :: .ref a :: st) :=
  v_putF0 hd hF hN hO hin2 hS hk (rep_r (x := some q) hS hk) h
end R2
