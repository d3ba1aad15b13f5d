/-! spans: what both sides settle -/
def kaL (f : Int → Int) (h l w : Int) : Int → Int := if f h < f l + w then iup f h (f l + w) else f
def kaH (f : Int → Int) (h l w : Int) : Int → Int := if f h - w < f l then iup f l (f h - w) else f
abbrev Spn : Type := (Int → Int) × (Int → Int)
abbrev Edg : Type := Int × Int × Int
def stp (X : Spn) (e : Edg) : Spn := (kaL X.1 e.1 e.2.1 e.2.2, kaH X.2 e.1 e.2.1 e.2.2)
def stf (Y : Spn × Int) (e : Edg) : Spn × Int := (stp Y.1 e, if Y.1.1 e.1 < Y.1.1 e.2.1 + e.2.2 then 1 else if Y.1.2 e.1 - e.2.2 < Y.1.2 e.2.1 then 1 else Y.2)
def stL (f : Int → Int) (e : Edg) : Int → Int := kaL f e.1 e.2.1 e.2.2
def neg (f : Int → Int) : Int → Int := fun i => - f i
def swE (e : Edg) : Edg := (e.2.1, e.1, e.2.2)
def InE (es : List Edg) : Prop := ∀ e, e ∈ es → (0 ≤ e.1 ∧ e.1 < 6) ∧ (0 ≤ e.2.1 ∧ e.2.1 < 6) ∧ e.2.2 ≤ 1 ∧ -4000000 ≤ e.2.2
def Sat (es : List Edg) (f : Int → Int) : Prop := ∀ e, e ∈ es → f e.2.1 + e.2.2 ≤ f e.1
def Bnd (m : Int) (X : Spn) : Prop := ∀ v : Int, 0 ≤ v → v < 6 → (0 ≤ X.1 v ∧ X.1 v ≤ 999 + m) ∧ (-m ≤ X.2 v ∧ X.2 v ≤ 999)
def Eq6p (X Y : Spn) : Prop := Eq6 X.1 Y.1 ∧ Eq6 X.2 Y.2
noncomputable def Dm (X : Spn) : Int := sumN X.2 6 - sumN X.1 6
theorem kaL_ge {f : Int → Int} {h l w : Int} (v : Int) : f v ≤ kaL f h l w v := by
  unfold kaL
  split
  · unfold iup
    split
    · rename_i a b; rw [b]; omega
    · exact Int.le_refl _
  · exact Int.le_refl _
theorem kaL_sat {f : Int → Int} {h l w : Int} : f l + w ≤ kaL f h l w h := by
  unfold kaL
  split
  · rw [iup_same]; exact Int.le_refl _
  · omega
theorem kaL_le {f p : Int → Int} {h l w : Int} (h1 : ∀ v, f v ≤ p v) (h2 : p l + w ≤ p h) (v : Int) : kaL f h l w v ≤ p v := by
  unfold kaL
  have := h1 l
  split
  · unfold iup
    split
    · rename_i a b; rw [b]; omega
    · exact h1 v
  · exact h1 v
theorem kaL_fix {f : Int → Int} {h l w : Int} (h2 : f l + w ≤ f h) : kaL f h l w = f := if_neg (by omega)
theorem kaL_c {f g : Int → Int} {h l w : Int} (e : Eq6 f g) (h0 : 0 ≤ h ∧ h < 6) (l0 : 0 ≤ l ∧ l < 6) : Eq6 (kaL f h l w) (kaL g h l w) := by
  intro v v0 v1
  unfold kaL
  rw [e h h0.1 h0.2, e l l0.1 l0.2]
  split
  · unfold iup; split
    · rfl
    · exact e v v0 v1
  · exact e v v0 v1
theorem kaH_c {f g : Int → Int} {h l w : Int} (e : Eq6 f g) (h0 : 0 ≤ h ∧ h < 6) (l0 : 0 ≤ l ∧ l < 6) : Eq6 (kaH f h l w) (kaH g h l w) := by
  intro v v0 v1
  unfold kaH
  rw [e h h0.1 h0.2, e l l0.1 l0.2]
  split
  · unfold iup; split
    · rfl
    · exact e v v0 v1
  · exact e v v0 v1
theorem kaH_neg {f : Int → Int} {h l w : Int} : neg (kaH f h l w) = kaL (neg f) l h w := by
  funext v
  unfold kaL kaH neg
  by_cases q : f h - w < f l
  · rw [if_pos q, if_pos (by omega)]
    unfold iup
    split
    · omega
    · rfl
  · rw [if_neg q, if_neg (by omega)]
theorem fL_ge : ∀ (es : List Edg) (f : Int → Int) (v : Int), f v ≤ es.foldl stL f v
  | [], _, _ => Int.le_refl _
  | e :: es, f, v => Int.le_trans (kaL_ge v) (fL_ge es (stL f e) v)
theorem fL_le : ∀ (es : List Edg) (f p : Int → Int), (∀ v, f v ≤ p v) → Sat es p → ∀ v, es.foldl stL f v ≤ p v
  | [], _, _, h, _ => h
  | e :: es, f, p, h, hs => fL_le es (stL f e) p (kaL_le h (hs e (List.mem_cons_self ..))) (fun e' h' => hs e' (List.mem_cons_of_mem _ h'))
theorem fL_fix : ∀ (es : List Edg) (f : Int → Int), Sat es f → es.foldl stL f = f
  | [], _, _ => rfl
  | e :: es, f, hs => by
    show es.foldl stL (stL f e) = f
    rw [show stL f e = f from kaL_fix (hs e (List.mem_cons_self ..))]
    exact fL_fix es f (fun e' h' => hs e' (List.mem_cons_of_mem _ h'))
theorem fL_sat : ∀ (es : List Edg) (f g : Int → Int), (∀ v, g v ≤ f v) → ∀ e, e ∈ es → g e.2.1 + e.2.2 ≤ es.foldl stL f e.1
  | [], _, _, _, _, h => absurd h (List.not_mem_nil)
  | e' :: es, f, g, hg, e, h => by
    rcases List.mem_cons.mp h with q | q
    · subst q
      have h1 := kaL_sat (f := f) (h := e.1) (l := e.2.1) (w := e.2.2)
      have h2 := fL_ge es (stL f e) e.1
      have h3 := hg e.2.1
      show _ ≤ es.foldl stL (stL f e) e.1
      unfold stL at h2 ⊢
      omega
    · exact fL_sat es (stL f e') g (fun v => Int.le_trans (hg v) (kaL_ge v)) e q
def itL (es : List Edg) (f : Int → Int) : Nat → Int → Int
  | 0 => f
  | r + 1 => es.foldl stL (itL es f r)
theorem itL_le {es : List Edg} {f p : Int → Int} (h : ∀ v, f v ≤ p v) (hs : Sat es p) : ∀ r v, itL es f r v ≤ p v
  | 0, v => h v
  | r + 1, v => fL_le es _ p (itL_le h hs r) hs v
theorem itL_ge {es : List Edg} {f : Int → Int} : ∀ r v, f v ≤ itL es f r v
  | 0, _ => Int.le_refl _
  | r + 1, v => Int.le_trans (itL_ge r v) (fL_ge es _ v)
theorem cnt_grow {p q : Int → Prop} {n : Nat} {v : Int} (h : ∀ i, p i → q i) (hv : 0 ≤ v ∧ v < n) (hp : ¬ p v) (hq : q v) : cntP p n + 1 ≤ cntP q n := by
  have e1 := cnt_one (l := v) n hv.1 hv.2
  have e2 : sumN (fun i => b2i (p i) + b2i (i = v)) n ≤ sumN (fun i => b2i (q i)) n := sumN_le _ (fun i i0 i1 => by
    by_cases e : i = v
    · subst e; rw [b2i_f hp, b2i_t hq, b2i_t rfl]; decide
    · rw [b2i_f e]
      by_cases a : p i
      · rw [b2i_t a, b2i_t (h i a)]; decide
      · rw [b2i_f a]; rcases b2i_01 (p := q i) with z | z <;> omega)
  rw [sumN_add] at e2
  unfold cntP at *
  dsimp only at e1 e2 ⊢
  omega
theorem cnt_all {p : Int → Prop} {n : Nat} (h : (n : Int) ≤ cntP p n) : ∀ i : Int, 0 ≤ i → i < n → p i := fun i i0 i1 => Classical.byContradiction fun hp => by
  have := cnt_grow (p := p) (q := fun _ => True) (n := n) (v := i) (fun _ _ => trivial) ⟨i0, i1⟩ hp trivial
  have h2 := cntP_nn (p := fun _ => True) n
  omega
/-- where a settled state is reached at all, it is reached after six rounds -/
theorem bf {es : List Edg} {f : Int → Int} {K : Nat} (hin : InE es) (hs : Sat es (itL es f K)) : Eq6 (itL es f 6) (itL es f K) := by
  have hle := itL_le (es := es) (f := f) (p := itL es f K) (itL_ge K) hs
  have key : ∀ r : Nat, r ≤ 6 → (r : Int) ≤ cntP (fun v => itL es f r v = itL es f K v) 6 := by
    intro r
    induction r with
    | zero => intro _; exact (cntP_nn 6).1
    | succ r ih =>
      intro hr
      have ih := ih (by omega)
      have hsub : ∀ i, itL es f r i = itL es f K i → itL es f (r + 1) i = itL es f K i := fun i q => by
        have h1 : itL es f r i ≤ itL es f (r + 1) i := fL_ge es _ i
        have h2 := hle (r + 1) i
        omega
      by_cases hall : ∃ v : Int, (0 ≤ v ∧ v < 6) ∧ itL es f r v ≠ itL es f K v ∧ itL es f (r + 1) v = itL es f K v
      · obtain ⟨v, v0, v1, v2⟩ := hall
        have := cnt_grow (n := 6) (p := fun v => itL es f r v = itL es f K v) (q := fun v => itL es f (r + 1) v = itL es f K v) hsub v0 v1 v2
        omega
      · -- nothing settled: the rest can be lowered, so that there is no rest
        have hp : ∀ v : Int, itL es f K v ≤ (if (0 ≤ v ∧ v < 6) ∧ itL es f r v ≠ itL es f K v then itL es f K v - 1 else itL es f K v) := by
          refine itL_le (fun v => ?_) (fun e he => ?_) K
          · have h1 := itL_ge (es := es) (f := f) r v
            have h2 := hle r v
            have h3 := itL_ge (es := es) (f := f) K v
            split <;> omega
          · obtain ⟨e1, e2, e3, e4⟩ := hin e he
            have h1 := hs e he
            by_cases q1 : itL es f r e.1 = itL es f K e.1
            · rw [if_neg (show ¬ ((0 ≤ e.1 ∧ e.1 < 6) ∧ itL es f r e.1 ≠ itL es f K e.1) from fun z => z.2 q1)]
              split <;> omega
            · rw [if_pos (show (0 ≤ e.1 ∧ e.1 < 6) ∧ itL es f r e.1 ≠ itL es f K e.1 from ⟨e1, q1⟩)]
              by_cases q2 : itL es f r e.2.1 = itL es f K e.2.1
              · rw [if_neg (show ¬ ((0 ≤ e.2.1 ∧ e.2.1 < 6) ∧ itL es f r e.2.1 ≠ itL es f K e.2.1) from fun z => z.2 q2)]
                have h2 := fL_sat es (itL es f r) (itL es f r) (fun _ => Int.le_refl _) e he
                have h3 := hle (r + 1) e.1
                have h4 : itL es f (r + 1) e.1 ≠ itL es f K e.1 := fun z => hall ⟨e.1, e1, q1, z⟩
                have h5 : itL es f r e.2.1 + e.2.2 ≤ itL es f (r + 1) e.1 := h2
                omega
              · rw [if_pos (show (0 ≤ e.2.1 ∧ e.2.1 < 6) ∧ itL es f r e.2.1 ≠ itL es f K e.2.1 from ⟨e2, q2⟩)]
                omega
        have hno : ∀ i : Int, 0 ≤ i → i < 6 → itL es f r i = itL es f K i := fun i i0 i1 => Classical.byContradiction fun q => by
          have := hp i
          rw [if_pos ⟨⟨i0, i1⟩, q⟩] at this
          omega
        have : cntP (fun v => itL es f (r + 1) v = itL es f K v) 6 = cntP (fun j => j < (6 : Nat) ∧ True) 6 := cntP_c 6 (fun i i0 i1 => ⟨fun _ => ⟨i1, trivial⟩, fun _ => hsub i (hno i i0 i1)⟩)
        rw [this]
        have h6 : ∀ k : Nat, k ≤ 6 → cntP (fun j => j < (6 : Nat) ∧ True) k = k := fun k => by
          induction k with
          | zero => intro _; rfl
          | succ k ihk => intro hk; show cntP _ k + b2i _ = _; rw [ihk (by omega), b2i_t ⟨by omega, trivial⟩]; rfl
        rw [h6 6 (by decide)]
        omega
  exact fun i i0 i1 => cnt_all (key 6 (by decide)) i i0 i1
/-! both ends at once -/
def rd (es : List Edg) (X : Spn) : Spn := es.foldl stp X
def its (es : List Edg) (X : Spn) : Nat → Spn
  | 0 => X
  | r + 1 => rd es (its es X r)
theorem rd_1 : ∀ (es : List Edg) (X : Spn), (rd es X).1 = es.foldl stL X.1
  | [], _ => rfl
  | e :: es, X => rd_1 es (stp X e)
theorem rd_2 : ∀ (es : List Edg) (X : Spn), neg (rd es X).2 = (es.map swE).foldl stL (neg X.2)
  | [], _ => rfl
  | e :: es, X => by
    show neg (rd es (stp X e)).2 = (es.map swE).foldl stL (stL (neg X.2) (swE e))
    rw [rd_2 es (stp X e)]
    exact congrArg (fun z => (es.map swE).foldl stL z) kaH_neg
theorem its_1 {es : List Edg} {X : Spn} : ∀ r, (its es X r).1 = itL es X.1 r
  | 0 => rfl
  | r + 1 => (rd_1 es _).trans (by rw [its_1 r]; rfl)
theorem its_2 {es : List Edg} {X : Spn} : ∀ r, neg (its es X r).2 = itL (es.map swE) (neg X.2) r
  | 0 => rfl
  | r + 1 => (rd_2 es _).trans (by rw [its_2 r]; rfl)
/-- settled -/
def SatP (es : List Edg) (X : Spn) : Prop := ∀ e, e ∈ es → X.1 e.2.1 + e.2.2 ≤ X.1 e.1 ∧ X.2 e.2.1 ≤ X.2 e.1 - e.2.2
theorem SatP.s1 {es : List Edg} {X : Spn} (h : SatP es X) : Sat es X.1 := fun e he => (h e he).1
theorem SatP.s2 {es : List Edg} {X : Spn} (h : SatP es X) : Sat (es.map swE) (neg X.2) := fun e he => by
  obtain ⟨e', h1, rfl⟩ := List.mem_map.mp he
  have := (h e' h1).2
  unfold neg swE
  dsimp only
  omega
theorem in_sw {es : List Edg} (h : InE es) : InE (es.map swE) := fun e he => by
  obtain ⟨e', h1, rfl⟩ := List.mem_map.mp he
  obtain ⟨a, b, c⟩ := h e' h1
  exact ⟨b, a, c⟩
theorem rd_fix {es : List Edg} {X : Spn} (h : SatP es X) : rd es X = X := by
  have h1 := (rd_1 es X).trans (fL_fix es X.1 h.s1)
  have h2 := (rd_2 es X).trans (fL_fix _ _ h.s2)
  refine Prod.ext h1 ?_
  funext v
  have := congrFun h2 v
  unfold neg at this
  omega
theorem its_mono {es : List Edg} {X : Spn} {r : Nat} : ∀ k v, (its es X r).1 v ≤ (its es X (r + k)).1 v ∧ (its es X (r + k)).2 v ≤ (its es X r).2 v
  | 0, _ => ⟨Int.le_refl _, Int.le_refl _⟩
  | k + 1, v => by
    have h := its_mono (es := es) (X := X) (r := r) k v
    have h1 := fL_ge es (its es X (r + k)).1 v
    have h2 := fL_ge (es.map swE) (neg (its es X (r + k)).2) v
    rw [← rd_1] at h1
    rw [← rd_2] at h2
    show _ ≤ (rd es (its es X (r + k))).1 v ∧ (rd es (its es X (r + k))).2 v ≤ _
    unfold neg at h2
    omega
theorem its_fix {es : List Edg} {X : Spn} {r : Nat} (h : SatP es (its es X r)) : ∀ k, its es X (r + k) = its es X r
  | 0 => rfl
  | k + 1 => by
    show rd es (its es X (r + k)) = _
    rw [its_fix h k]; exact rd_fix h
theorem its_6 {es : List Edg} {X : Spn} {K : Nat} (hin : InE es) (h : SatP es (its es X K)) : SatP es (its es X 6) := by
  have h1 := bf (f := X.1) (K := K) hin (by rw [← its_1]; exact h.s1)
  have h2 := bf (f := neg X.2) (K := K) (in_sw hin) (by rw [← its_2]; exact h.s2)
  rw [← its_1, ← its_1] at h1
  rw [← its_2, ← its_2] at h2
  intro e he
  obtain ⟨e1, e2, -⟩ := hin e he
  have q := h e he
  have a1 := h1 e.1 e1.1 e1.2
  have a2 := h1 e.2.1 e2.1 e2.2
  have b1 := h2 e.1 e1.1 e1.2
  have b2 := h2 e.2.1 e2.1 e2.2
  unfold neg at b1 b2
  omega
/-! what is moved -/
theorem sum_iup {f : Int → Int} {z x : Int} (hz : 0 ≤ z ∧ z < 6) : sumN (iup f z x) 6 = sumN f 6 + (x - f z) := sumN_upd (g := z) 6 hz (fun i _ _ q => iup_ne q) (by rw [iup_same]; omega)
def Mvd (fl : Int) (X Y : Spn) : Prop := (fl = 0 ∧ Y = X) ∨ (fl = 1 ∧ Dm Y < Dm X)
theorem stp_le {X : Spn} {e : Edg} (he : (0 ≤ e.1 ∧ e.1 < 6) ∧ (0 ≤ e.2.1 ∧ e.2.1 < 6)) : (X.1 e.1 < X.1 e.2.1 + e.2.2 ∨ X.2 e.1 - e.2.2 < X.2 e.2.1) → Dm (stp X e) < Dm X := by
  intro h
  unfold Dm stp kaL kaH
  dsimp only
  by_cases q1 : X.1 e.1 < X.1 e.2.1 + e.2.2 <;> by_cases q2 : X.2 e.1 - e.2.2 < X.2 e.2.1
  · rw [if_pos q1, if_pos q2, sum_iup he.1, sum_iup he.2]; omega
  · rw [if_pos q1, if_neg q2, sum_iup he.1]; omega
  · rw [if_neg q1, if_pos q2, sum_iup he.2]; omega
  · omega
theorem stp_eq {X : Spn} {e : Edg} (h : ¬ (X.1 e.1 < X.1 e.2.1 + e.2.2 ∨ X.2 e.1 - e.2.2 < X.2 e.2.1)) : stp X e = X := by
  unfold stp kaL kaH
  rw [if_neg (fun q => h (Or.inl q)), if_neg (fun q => h (Or.inr q))]
theorem stf_mv {X0 X Z : Spn} {fl : Int} {e : Edg} (he : (0 ≤ e.1 ∧ e.1 < 6) ∧ (0 ≤ e.2.1 ∧ e.2.1 < 6)) (hq : Eq6p X Z) (h : Mvd fl X0 Z) : Eq6p (stf (X, fl) e).1 (stp Z e) ∧ Mvd (stf (X, fl) e).2 X0 (stp Z e) := by
  refine ⟨⟨kaL_c hq.1 he.1 he.2, kaH_c hq.2 he.1 he.2⟩, ?_⟩
  have a1 := hq.1 e.1 he.1.1 he.1.2
  have a2 := hq.1 e.2.1 he.2.1 he.2.2
  have b1 := hq.2 e.1 he.1.1 he.1.2
  have b2 := hq.2 e.2.1 he.2.1 he.2.2
  show Mvd (if X.1 e.1 < X.1 e.2.1 + e.2.2 then 1 else if X.2 e.1 - e.2.2 < X.2 e.2.1 then 1 else fl) X0 (stp Z e)
  rw [a1, a2, b1, b2]
  by_cases q : Z.1 e.1 < Z.1 e.2.1 + e.2.2 ∨ Z.2 e.1 - e.2.2 < Z.2 e.2.1
  · have := stp_le he q
    refine Or.inr ⟨?_, ?_⟩
    · by_cases q1 : Z.1 e.1 < Z.1 e.2.1 + e.2.2
      · rw [if_pos q1]
      · rw [if_neg q1, if_pos (q.resolve_left q1)]
    · rcases h with ⟨-, h⟩ | ⟨-, h⟩
      · rw [h] at this ⊢; exact this
      · omega
  · rw [stp_eq q, if_neg (fun z => q (Or.inl z)), if_neg (fun z => q (Or.inr z))]
    exact h
theorem fold_mv {X0 : Spn} : ∀ (es : List Edg) (X Z : Spn) (fl : Int), InE es → Eq6p X Z → Mvd fl X0 Z → Eq6p (es.foldl stf (X, fl)).1 (rd es Z) ∧ Mvd (es.foldl stf (X, fl)).2 X0 (rd es Z)
  | [], _, _, _, _, h1, h2 => ⟨h1, h2⟩
  | e :: es, X, Z, fl, hin, h1, h2 => by
    have he := hin e (List.mem_cons_self ..)
    have := stf_mv (X0 := X0) ⟨he.1, he.2.1⟩ h1 h2
    exact fold_mv es _ _ _ (fun e' h' => hin e' (List.mem_cons_of_mem _ h')) this.1 this.2
theorem sat_of_fix {es : List Edg} : ∀ {X : Spn}, InE es → ¬ SatP es X → Dm (rd es X) < Dm X := by
  intro X hin hn
  have h := fold_mv (X0 := X) es X X 0 hin ⟨fun _ _ _ => rfl, fun _ _ _ => rfl⟩ (Or.inl ⟨rfl, rfl⟩)
  rcases h.2 with ⟨-, q⟩ | ⟨-, q⟩
  · exfalso
    apply hn
    have f1 := (rd_1 es X).symm.trans (congrArg Prod.fst q)
    have f2 := (rd_2 es X).symm.trans (congrArg (fun z => neg z.2) q)
    intro e he
    have a1 := fL_sat es X.1 X.1 (fun _ => Int.le_refl _) e he
    have a2 := fL_sat (es.map swE) (neg X.2) (neg X.2) (fun _ => Int.le_refl _) (swE e) (List.mem_map.mpr ⟨e, he, rfl⟩)
    rw [f1] at a1
    rw [f2] at a2
    unfold neg swE at a2
    dsimp only at a2
    omega
  · exact q
theorem bnd_stp {m : Int} {X : Spn} {e : Edg} (h : Bnd m X) (he : (0 ≤ e.1 ∧ e.1 < 6) ∧ (0 ≤ e.2.1 ∧ e.2.1 < 6) ∧ e.2.2 ≤ 1 ∧ -4000000 ≤ e.2.2) : Bnd (m + 1) (stp X e) := by
  intro v v0 v1
  have h1 := h e.1 he.1.1 he.1.2
  have h2 := h e.2.1 he.2.1.1 he.2.1.2
  have h3 := h v v0 v1
  have k1 : (kaL X.1 e.1 e.2.1 e.2.2) v = X.1 v ∨ ((kaL X.1 e.1 e.2.1 e.2.2) v = X.1 e.2.1 + e.2.2 ∧ X.1 v < X.1 e.2.1 + e.2.2) := by
    unfold kaL
    split
    · unfold iup
      split
      · rename_i a b; rw [b]; exact Or.inr ⟨rfl, a⟩
      · exact Or.inl rfl
    · exact Or.inl rfl
  have k2 : (kaH X.2 e.1 e.2.1 e.2.2) v = X.2 v ∨ ((kaH X.2 e.1 e.2.1 e.2.2) v = X.2 e.1 - e.2.2 ∧ X.2 e.1 - e.2.2 < X.2 v) := by
    unfold kaH
    split
    · unfold iup
      split
      · rename_i a b; rw [b]; exact Or.inr ⟨rfl, a⟩
      · exact Or.inl rfl
    · exact Or.inl rfl
  show (0 ≤ kaL X.1 e.1 e.2.1 e.2.2 v ∧ kaL X.1 e.1 e.2.1 e.2.2 v ≤ 999 + (m + 1)) ∧ (-(m + 1) ≤ kaH X.2 e.1 e.2.1 e.2.2 v ∧ kaH X.2 e.1 e.2.1 e.2.2 v ≤ 999)
  omega
def edgS (n0 n1 n2 n3 n4 ls : Int) : List Edg := (if n2 = 2 then [] else [(n0, n1, (if n2 = 0 then 0 else 1) - ls * n4)]) ++ (if n2 = 1 then [] else [(n1, n0, (if n2 = 0 then 0 else 1) - ls * n3)])
def edsS (t : BSt) : Nat → List Edg
  | 0 => []
  | k + 1 => edsS t k ++ edgS (t.2.2.2.1 (5 * (k : Int))) (t.2.2.2.1 (5 * (k : Int) + 1)) (t.2.2.2.1 (5 * (k : Int) + 2)) (t.2.2.2.1 (5 * (k : Int) + 3)) (t.2.2.2.1 (5 * (k : Int) + 4)) t.2.2.1
theorem edgS_in {n0 n1 n2 n3 n4 ls B : Int} (h0 : 0 ≤ n0 ∧ n0 < 6) (h1 : 0 ≤ n1 ∧ n1 < 6) (h3 : 0 ≤ n3 ∧ n3 ≤ B) (h4 : 0 ≤ n4 ∧ n4 ≤ B) (hl : 0 ≤ ls ∧ ls ≤ 20) (hB : B ≤ 100000) : InE (edgS n0 n1 n2 n3 n4 ls) := by
  have m3 : 0 ≤ ls * n3 ∧ ls * n3 ≤ 20 * n3 := ⟨Int.mul_nonneg hl.1 h3.1, Int.mul_le_mul_of_nonneg_right hl.2 h3.1⟩
  have m4 : 0 ≤ ls * n4 ∧ ls * n4 ≤ 20 * n4 := ⟨Int.mul_nonneg hl.1 h4.1, Int.mul_le_mul_of_nonneg_right hl.2 h4.1⟩
  intro e he
  unfold edgS at he
  rcases List.mem_append.mp he with q | q
  · split at q
    · exact absurd q (List.not_mem_nil)
    · rw [List.mem_singleton] at q
      subst q
      refine ⟨h0, h1, ?_, ?_⟩ <;> dsimp only <;> split <;> omega
  · split at q
    · exact absurd q (List.not_mem_nil)
    · rw [List.mem_singleton] at q
      subst q
      refine ⟨h1, h0, ?_, ?_⟩ <;> dsimp only <;> split <;> omega
theorem edsS_in {t : BSt} {B : Int} (hok : StOk t B) (hB : B ≤ 100000) : ∀ k : Nat, (k : Int) ≤ t.2.1 → InE (edsS t k)
  | 0, _ => fun _ h => absurd h (List.not_mem_nil)
  | k + 1, hk => by
    obtain ⟨o1, o2, o3, o4, o5⟩ := id hok
    have h := o4 (k : Int) (by omega) (by omega)
    intro e he
    rcases List.mem_append.mp he with q | q
    · exact edsS_in hok hB k (by omega) e q
    · exact edgS_in (B := B) ⟨h.1.1, by omega⟩ ⟨h.2.1.1, by omega⟩ h.2.2.2.2.1 h.2.2.2.2.2 o3 hB e q
/-! the answer -/
def spX (t : BSt) (r : Nat) : Spn := its (edsS t t.2.1.toNat) (t.2.2.2.2.2.1, t.2.2.2.2.2.2.1) r
def FitX (t : BSt) (X : Spn) : Prop := ∀ v : Int, 0 ≤ v → v < t.1 → X.1 v ≤ X.2 v
def SpA (t : BSt) (r : Nat) : Prop := SatP (edsS t t.2.1.toNat) (spX t r) ∧ FitX t (spX t r)
def SpZ (t : BSt) (s e z : Int) : Prop := (∃ r, SpA t r ∧ z = if e = 0 then (spX t r).1 s else (spX t r).2 s) ∨ ((∀ r, ¬ SpA t r) ∧ z = -6)
def SpanQ (t : BSt) (s e z : Int) : Prop := ((0 ≤ s ∧ s < t.1) → (0 ≤ e ∧ e ≤ 1) → SpZ t s e z) ∧ ((0 ≤ s ∧ s < t.1) → ¬ (0 ≤ e ∧ e ≤ 1) → z = -2) ∧ (¬ (0 ≤ s ∧ s < t.1) → z = -1)
theorem spX_eq {t : BSt} {r r' : Nat} (h : SatP (edsS t t.2.1.toNat) (spX t r)) (h' : SatP (edsS t t.2.1.toNat) (spX t r')) : spX t r = spX t r' := by
  rcases Nat.le_total r r' with q | q
  · have := its_fix h (r' - r)
    rw [show r + (r' - r) = r' by omega] at this
    exact this.symm
  · have := its_fix h' (r - r')
    rw [show r' + (r - r') = r by omega] at this
    exact this
theorem SpZ_un {t : BSt} {s e z z' : Int} (h : SpZ t s e z) (h' : SpZ t s e z') : z = z' := by
  rcases h with ⟨r, h1, h2⟩ | ⟨h1, h2⟩ <;> rcases h' with ⟨r', h1', h2'⟩ | ⟨h1', h2'⟩
  · rw [h2, h2', spX_eq h1.1 h1'.1]
  · exact absurd h1 (h1' r)
  · exact absurd h1' (h1 r')
  · rw [h2, h2']
theorem SpanQ_un {t : BSt} {s e z z' : Int} (h : SpanQ t s e z) (h' : SpanQ t s e z') : z = z' := by
  by_cases q1 : 0 ≤ s ∧ s < t.1
  · by_cases q2 : 0 ≤ e ∧ e ≤ 1
    · exact SpZ_un (h.1 q1 q2) (h'.1 q1 q2)
    · rw [h.2.1 q1 q2, h'.2.1 q1 q2]
  · rw [h.2.2 q1, h'.2.2 q1]
