/-! relations of sacks: closures, and what both sides make of the sayings -/
abbrev Rl : Type := Int → Int → Prop
def wst (k : Int) (R : Rl) : Rl := fun i j => R i j ∨ (R i k ∧ R k j)
def wsh : Nat → Rl → Rl
  | 0, R => R
  | n + 1, R => wst n (wsh n R)
/-- the least transitive relation above R -/
def TC (R : Rl) : Rl := fun i j => ∀ T : Rl, (∀ a b, R a b → T a b) → (∀ a b c, T a b → T b c → T a c) → T i j
theorem TC.base {R : Rl} {i j : Int} (h : R i j) : TC R i j := fun _ h1 _ => h1 i j h
theorem TC.trans {R : Rl} {i j k : Int} (h : TC R i j) (h' : TC R j k) : TC R i k := fun T h1 h2 => h2 _ _ _ (h T h1 h2) (h' T h1 h2)
theorem TC.ind {R T : Rl} {i j : Int} (h : TC R i j) (h1 : ∀ a b, R a b → T a b) (h2 : ∀ a b c, T a b → T b c → T a c) : T i j := h T h1 h2
theorem TC.mono {R R' : Rl} {i j : Int} (h : TC R i j) (h1 : ∀ a b, R a b → R' a b) : TC R' i j := h.ind (fun a b q => TC.base (h1 a b q)) (fun _ _ _ q q' => q.trans q')
theorem TC.symm {R : Rl} (hs : ∀ a b, R a b → R b a) {i j : Int} (h : TC R i j) : TC R j i := h.ind (T := fun x y => TC R y x) (fun a b q => TC.base (hs a b q)) (fun _ _ _ q q' => q'.trans q)
theorem wsh_base {R : Rl} {i j : Int} : ∀ n : Nat, R i j → wsh n R i j
  | 0, h => h
  | n + 1, h => Or.inl (wsh_base n h)
theorem wsh_sub {R : Rl} : ∀ (n : Nat) (i j : Int), wsh n R i j → TC R i j
  | 0, _, _, h => TC.base h
  | n + 1, i, j, h => by
    rcases h with h | ⟨h1, h2⟩
    · exact wsh_sub n i j h
    · exact (wsh_sub n _ _ h1).trans (wsh_sub n _ _ h2)
theorem wsh_tr {R : Rl} : ∀ (n m : Nat) (i j : Int), m < n → wsh n R i m → wsh n R m j → wsh n R i j
  | 0, m, _, _, h, _, _ => absurd h (Nat.not_lt_zero m)
  | n + 1, m, i, j, h, h1, h2 => by
    by_cases e : m = n
    · subst e
      have a1 : wsh m R i m := by rcases h1 with h1 | ⟨h1, -⟩ <;> exact h1
      have a2 : wsh m R m j := by rcases h2 with h2 | ⟨-, h2⟩ <;> exact h2
      exact Or.inr ⟨a1, a2⟩
    · have hm : m < n := by omega
      have T := fun x y => wsh_tr (R := R) n m x y hm
      rcases h1 with h1 | ⟨h1, h1'⟩
      · rcases h2 with h2 | ⟨h2, h2'⟩
        · exact Or.inl (T _ _ h1 h2)
        · exact Or.inr ⟨T _ _ h1 h2, h2'⟩
      · rcases h2 with h2 | ⟨h2, h2'⟩
        · exact Or.inr ⟨h1, T _ _ h1' h2⟩
        · exact Or.inr ⟨h1, h2'⟩
theorem wsh_dom {R : Rl} (N : Nat) (hd : ∀ a b, R a b → a = b ∨ (0 ≤ b ∧ b < (N : Int))) : ∀ (n : Nat) (i j : Int), wsh n R i j → i = j ∨ (0 ≤ j ∧ j < (N : Int))
  | 0, i, j, h => hd i j h
  | n + 1, i, j, h => by
    rcases h with h | ⟨h1, h2⟩
    · exact wsh_dom N hd n i j h
    · rcases wsh_dom N hd n _ _ h2 with e | e
      · rw [← e]; exact wsh_dom N hd n _ _ h1
      · exact Or.inr e
theorem wsh_tc {R : Rl} (n : Nat) (hd : ∀ a b, R a b → a = b ∨ (0 ≤ b ∧ b < (n : Int))) (i j : Int) : wsh n R i j ↔ TC R i j := by
  refine ⟨wsh_sub n i j, fun h => h.ind (fun a b q => wsh_base n q) fun a b c q q' => ?_⟩
  rcases wsh_dom n hd n _ _ q with e | e
  · rw [e]; exact q'
  · have := wsh_tr (R := R) n b.toNat a c (by omega)
    rw [show ((b.toNat : Nat) : Int) = b by omega] at this
    exact this q q'
section SPLIT
variable {S0 O : Rl}
def rQ (S0 O : Rl) : Rl := fun i j => ∃ a b, TC S0 i a ∧ O a b ∧ TC S0 b j
def rG (S0 O : Rl) : Rl := fun i j => S0 i j ∨ O i j
theorem rQ_l {i j k : Int} (h : TC S0 i j) (h' : TC (rQ S0 O) j k) : TC (rQ S0 O) i k := by
  have h2 := h'.ind (T := fun x y => TC (rQ S0 O) x y ∧ ∀ z, TC S0 z x → TC (rQ S0 O) z y) (fun a b q => ⟨TC.base q, fun z hz => by
    obtain ⟨c, d, q1, q2, q3⟩ := q
    exact TC.base ⟨c, d, hz.trans q1, q2, q3⟩⟩) (fun a b c q q' => ⟨q.1.trans q'.1, fun z hz => (q.2 z hz).trans q'.1⟩)
  exact h2.2 i h
theorem rQ_r {i j k : Int} (h' : TC (rQ S0 O) i j) (h : TC S0 j k) : TC (rQ S0 O) i k := by
  have h2 := h'.ind (T := fun x y => TC (rQ S0 O) x y ∧ ∀ z, TC S0 y z → TC (rQ S0 O) x z) (fun a b q => ⟨TC.base q, fun z hz => by
    obtain ⟨c, d, q1, q2, q3⟩ := q
    exact TC.base ⟨c, d, q1, q2, q3.trans hz⟩⟩) (fun a b c q q' => ⟨q.1.trans q'.1, fun z hz => q.1.trans (q'.2 z hz)⟩)
  exact h2.2 k h
theorem rG_split (hr : ∀ a, S0 a a) (i j : Int) : TC (rG S0 O) i j ↔ TC S0 i j ∨ TC (rQ S0 O) i j := by
  constructor
  · intro h
    refine h.ind (T := fun i j => TC S0 i j ∨ TC (rQ S0 O) i j) (fun a b q => ?_) (fun a b c q q' => ?_)
    · rcases q with q | q
      · exact Or.inl (TC.base q)
      · exact Or.inr (TC.base ⟨a, b, TC.base (hr a), q, TC.base (hr b)⟩)
    · rcases q with q | q <;> rcases q' with q' | q'
      · exact Or.inl (q.trans q')
      · exact Or.inr (rQ_l q q')
      · exact Or.inr (rQ_r q q')
      · exact Or.inr (q.trans q')
  · have hS : ∀ a b, TC S0 a b → TC (rG S0 O) a b := fun a b q => q.mono fun _ _ z => Or.inl z
    rintro (h | h)
    · exact hS i j h
    · refine h.ind (fun a b q => ?_) (fun a b c q q' => q.trans q')
      obtain ⟨c, d, q1, q2, q3⟩ := q
      exact ((hS _ _ q1).trans (TC.base (Or.inr q2))).trans (hS _ _ q3)
theorem can_iff (hr : ∀ a, S0 a a) : (∀ a b, O a b → ¬ TC (rG S0 O) b a) ↔ ∀ i, ¬ TC (rQ S0 O) i i := by
  constructor
  · intro h i hi
    have h2 := hi.ind (T := fun x y => TC (rG S0 O) x y ∧ ∃ a b, TC (rG S0 O) x a ∧ O a b ∧ TC (rG S0 O) b y) (fun x y q => by
      obtain ⟨c, d, q1, q2, q3⟩ := q
      have a1 := (rG_split (O := O) hr x c).mpr (Or.inl q1)
      have a2 := (rG_split (O := O) hr d y).mpr (Or.inl q3)
      exact ⟨(a1.trans (TC.base (Or.inr q2))).trans a2, c, d, a1, q2, a2⟩) (fun x y z q q' => by
      obtain ⟨q0, a, b, q1, q2, q3⟩ := q
      exact ⟨q0.trans q'.1, a, b, q1, q2, q3.trans q'.1⟩)
    obtain ⟨-, a, b, q1, q2, q3⟩ := h2
    exact h a b q2 (q3.trans q1)
  · intro h a b hab hba
    rcases (rG_split hr b a).mp hba with q | q
    · exact h a (rQ_r (TC.base ⟨a, b, TC.base (hr a), hab, TC.base (hr b)⟩) q)
    · exact h a ((TC.base ⟨a, b, TC.base (hr a), hab, TC.base (hr b)⟩ : TC (rQ S0 O) a b).trans q)
theorem alike_iff (hr : ∀ a, S0 a a) (hs : ∀ a b, S0 a b → S0 b a) (hc : ∀ i, ¬ TC (rQ S0 O) i i) (i j : Int) : (TC (rG S0 O) i j ∧ TC (rG S0 O) j i) ↔ TC S0 i j := by
  constructor
  · rintro ⟨h1, h2⟩
    rcases (rG_split hr i j).mp h1 with q | q
    · exact q
    · rcases (rG_split hr j i).mp h2 with q' | q'
      · exact absurd (rQ_r q q') (hc i)
      · exact absurd (q.trans q') (hc i)
  · intro h
    exact ⟨(rG_split hr i j).mpr (Or.inl h), (rG_split hr j i).mpr (Or.inl (h.symm hs))⟩
theorem heavier_iff (hr : ∀ a, S0 a a) (hs : ∀ a b, S0 a b → S0 b a) (hc : ∀ i, ¬ TC (rQ S0 O) i i) (i j : Int) : (TC (rG S0 O) i j ∧ ¬ TC (rG S0 O) j i) ↔ TC (rQ S0 O) i j := by
  constructor
  · rintro ⟨h1, h2⟩
    rcases (rG_split hr i j).mp h1 with q | q
    · exact absurd ((rG_split hr j i).mpr (Or.inl (q.symm hs))) h2
    · exact q
  · intro h
    refine ⟨(rG_split hr i j).mpr (Or.inr h), fun h2 => ?_⟩
    rcases (rG_split hr j i).mp h2 with q' | q'
    · exact hc i (rQ_r h q')
    · exact hc i (h.trans q')
end SPLIT
/-- the sayings k that are believed: Sel; what they say -/
def sGe (t : BSt) (Sel : Int → Prop) : Rl := fun i j => ∃ k : Int, 0 ≤ k ∧ k < t.2.1 ∧ Sel k ∧ ((i = t.2.2.2.1 (5 * k) ∧ j = t.2.2.2.1 (5 * k + 1) ∧ t.2.2.2.1 (5 * k + 2) ≠ 2) ∨ (i = t.2.2.2.1 (5 * k + 1) ∧ j = t.2.2.2.1 (5 * k) ∧ t.2.2.2.1 (5 * k + 2) ≠ 1))
def sEq (t : BSt) (Sel : Int → Prop) : Rl := fun i j => i = j ∨ ∃ k : Int, 0 ≤ k ∧ k < t.2.1 ∧ Sel k ∧ t.2.2.2.1 (5 * k + 2) = 0 ∧ ((i = t.2.2.2.1 (5 * k) ∧ j = t.2.2.2.1 (5 * k + 1)) ∨ (i = t.2.2.2.1 (5 * k + 1) ∧ j = t.2.2.2.1 (5 * k)))
def sGt (t : BSt) (Sel : Int → Prop) : Rl := fun i j => ∃ k : Int, 0 ≤ k ∧ k < t.2.1 ∧ Sel k ∧ ((i = t.2.2.2.1 (5 * k) ∧ j = t.2.2.2.1 (5 * k + 1) ∧ t.2.2.2.1 (5 * k + 2) = 1) ∨ (i = t.2.2.2.1 (5 * k + 1) ∧ j = t.2.2.2.1 (5 * k) ∧ t.2.2.2.1 (5 * k + 2) = 2))
/-- no less heavy, by all that is believed -/
def Rg (t : BSt) (Sel : Int → Prop) : Rl := TC (rG (sEq t Sel) (sGt t Sel))
def Can (t : BSt) (Sel : Int → Prop) : Prop := ∀ a b, sGt t Sel a b → ¬ Rg t Sel b a
theorem sEq_r {t : BSt} {Sel : Int → Prop} : ∀ a, sEq t Sel a a := fun _ => Or.inl rfl
theorem sEq_s {t : BSt} {Sel : Int → Prop} : ∀ a b, sEq t Sel a b → sEq t Sel b a := by
  rintro a b (rfl | ⟨k, h0, h1, h2, h3, h4⟩)
  · exact Or.inl rfl
  · rcases h4 with ⟨q1, q2⟩ | ⟨q1, q2⟩
    · exact Or.inr ⟨k, h0, h1, h2, h3, Or.inr ⟨q2, q1⟩⟩
    · exact Or.inr ⟨k, h0, h1, h2, h3, Or.inl ⟨q2, q1⟩⟩
theorem sGe_iff {t : BSt} {Sel : Int → Prop} {B : Int} (ht : StOk t B) (i j : Int) : (i = j ∨ sGe t Sel i j) ↔ rG (sEq t Sel) (sGt t Sel) i j := by
  constructor
  · rintro (rfl | ⟨k, h0, h1, h2, h3⟩)
    · exact Or.inl (Or.inl rfl)
    · have hk := ht.2.2.2.1 k h0 h1
      by_cases e : t.2.2.2.1 (5 * k + 2) = 0
      · exact Or.inl (Or.inr ⟨k, h0, h1, h2, e, h3.imp (fun q => ⟨q.1, q.2.1⟩) (fun q => ⟨q.1, q.2.1⟩)⟩)
      · refine Or.inr ⟨k, h0, h1, h2, h3.imp (fun q => ⟨q.1, q.2.1, ?_⟩) (fun q => ⟨q.1, q.2.1, ?_⟩)⟩
        · have := q.2.2; omega
        · have := q.2.2; omega
  · rintro ((h | ⟨k, h0, h1, h2, h3, h4⟩) | ⟨k, h0, h1, h2, h3⟩)
    · exact Or.inl h
    · exact Or.inr ⟨k, h0, h1, h2, h4.imp (fun q => ⟨q.1, q.2, by omega⟩) (fun q => ⟨q.1, q.2, by omega⟩)⟩
    · exact Or.inr ⟨k, h0, h1, h2, h3.imp (fun q => ⟨q.1, q.2.1, by omega⟩) (fun q => ⟨q.1, q.2.1, by omega⟩)⟩
