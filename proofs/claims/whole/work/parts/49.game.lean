/-! which sack next: the game behind more -/
/-- a strict order on 0 .. G - 1 -/
def SPO (G : Int) (R : Rl) : Prop := (∀ a b, R a b → (0 ≤ a ∧ a < G) ∧ 0 ≤ b ∧ b < G) ∧ (∀ a, ¬ R a a) ∧ ∀ a b c, R a b → R b c → R a c
/-- R and that a is heavier than b, with all that follows -/
def jnR (R : Rl) (a b : Int) : Rl := fun i j => R i j ∨ ((i = a ∨ R i a) ∧ (j = b ∨ R b j))
def WhR (G : Int) (R : Rl) : Prop := ∀ a b : Int, 0 ≤ a → a < G → 0 ≤ b → b < G → a ≠ b → R a b ∨ R b a
/-- laying g where y lies tells something new -/
def OpR (G : Int) (R : Rl) (y g : Int) : Prop := (0 ≤ y ∧ y < G) ∧ ¬ R y g ∧ ¬ R g y
/-- n lifts are enough -/
def Win (G : Int) : Nat → Rl → Int → Prop
  | 0, R, _ => WhR G R
  | n + 1, R, y => Win G n R y ∨ ∃ g : Int, (0 ≤ g ∧ g < G) ∧ g ≠ y ∧ (OpR G R y g → Win G n (jnR R g y) g ∧ Win G n (jnR R y g) g) ∧ (¬ OpR G R y g → Win G n R g)
def SubR (R R' : Rl) : Prop := ∀ a b, R a b → R' a b
theorem jn_sub {R : Rl} {a b : Int} : SubR R (jnR R a b) := fun _ _ h => Or.inl h
theorem jn_has {R : Rl} {a b : Int} : jnR R a b a b := Or.inr ⟨Or.inl rfl, Or.inl rfl⟩
theorem jn_least {R R' : Rl} {G a b : Int} (hs : SubR R R') (h : SPO G R') (hab : R' a b) : SubR (jnR R a b) R' := by
  rintro i j (q | ⟨q1, q2⟩)
  · exact hs i j q
  · have h1 : i = a ∨ R' i a := q1.imp id (hs _ _)
    have h2 : j = b ∨ R' b j := q2.imp id (hs _ _)
    rcases h1 with h1 | h1 <;> rcases h2 with h2 | h2
    · rw [h1, h2]; exact hab
    · rw [h1]; exact h.2.2 _ _ _ hab h2
    · rw [h2]; exact h.2.2 _ _ _ h1 hab
    · exact h.2.2 _ _ _ h1 (h.2.2 _ _ _ hab h2)
theorem jn_spo {R : Rl} {G a b : Int} (h : SPO G R) (ha : 0 ≤ a ∧ a < G) (hb : 0 ≤ b ∧ b < G) (hne : a ≠ b) (h2 : ¬ R b a) : SPO G (jnR R a b) := by
  refine ⟨?_, ?_, ?_⟩
  · rintro i j (q | ⟨q1, q2⟩)
    · exact h.1 i j q
    · exact ⟨q1.elim (fun z => by rw [z]; exact ha) (fun z => (h.1 _ _ z).1), q2.elim (fun z => by rw [z]; exact hb) (fun z => (h.1 _ _ z).2)⟩
  · rintro i (q | ⟨q1 | q1, q2 | q2⟩)
    · exact h.2.1 i q
    · exact hne (q1.symm.trans q2)
    · rw [q1] at q2; exact h2 q2
    · rw [q2] at q1; exact h2 q1
    · exact h2 (h.2.2 _ _ _ q2 q1)
  · rintro i j k (q | ⟨q1, q2⟩) (q' | ⟨q1', q2'⟩)
    · exact Or.inl (h.2.2 _ _ _ q q')
    · exact Or.inr ⟨Or.inr (q1'.elim (fun z => by rw [← z]; exact q) (fun z => h.2.2 _ _ _ q z)), q2'⟩
    · exact Or.inr ⟨q1, Or.inr (q2.elim (fun z => by rw [← z]; exact q') (fun z => h.2.2 _ _ _ z q'))⟩
    · exact Or.inr ⟨q1, q2'⟩
theorem Win.up {G : Int} {R : Rl} {y : Int} {n : Nat} : ∀ m : Nat, n ≤ m → Win G n R y → Win G m R y := by
  intro m h hw
  induction m with
  | zero => rw [show n = 0 by omega] at hw; exact hw
  | succ m ih =>
    by_cases e : n = m + 1
    · rw [← e]; exact hw
    · exact Or.inl (ih (by omega))
/-- more that is known does no harm -/
theorem Win.mono {G : Int} : ∀ (n : Nat) {R R' : Rl} {y : Int}, SPO G R → SPO G R' → SubR R R' → Win G n R y → Win G n R' y
  | 0, _, _, _, _, _, hs, h => fun a b a0 a1 b0 b1 ne => (h a b a0 a1 b0 b1 ne).imp (hs _ _) (hs _ _)
  | n + 1, R, R', y, h1, h2, hs, h => by
    rcases h with h | ⟨g, hg, hne, hop, hnop⟩
    · exact Or.inl (Win.mono n h1 h2 hs h)
    · refine Or.inr ⟨g, hg, hne, fun hy => ?_, fun hy => ?_⟩
      · have hy1 : OpR G R y g := ⟨hy.1, fun z => hy.2.1 (hs _ _ z), fun z => hy.2.2 (hs _ _ z)⟩
        obtain ⟨w1, w2⟩ := hop hy1
        have s1 := jn_spo h2 hg hy.1 hne hy.2.1
        have s2 := jn_spo h2 hy.1 hg (fun z => hne z.symm) hy.2.2
        exact ⟨Win.mono n (jn_spo h1 hg hy.1 hne hy1.2.1) s1 (jn_least (fun a b z => Or.inl (hs a b z)) s1 jn_has) w1, Win.mono n (jn_spo h1 hy.1 hg (fun z => hne z.symm) hy1.2.2) s2 (jn_least (fun a b z => Or.inl (hs a b z)) s2 jn_has) w2⟩
      · by_cases hy1 : OpR G R y g
        · obtain ⟨w1, w2⟩ := hop hy1
          by_cases q1 : R' y g
          · exact Win.mono n (jn_spo h1 hy1.1 hg (fun z => hne z.symm) hy1.2.2) h2 (jn_least hs h2 q1) w2
          · by_cases q2 : R' g y
            · exact Win.mono n (jn_spo h1 hg hy1.1 hne hy1.2.1) h2 (jn_least hs h2 q2) w1
            · exact absurd ⟨hy1.1, q1, q2⟩ hy
        · exact Win.mono n h1 h2 hs (hnop hy1)
theorem jn_c {R R' : Rl} {a b : Int} (h : ∀ i j, R i j ↔ R' i j) (i j : Int) : jnR R a b i j ↔ jnR R' a b i j := by unfold jnR; simp only [h]
theorem Win.c {G : Int} : ∀ (n : Nat) {R R' : Rl} {y : Int}, (∀ i j, R i j ↔ R' i j) → (Win G n R y ↔ Win G n R' y) := fun n R R' y h => by rw [show R = R' from funext fun i => funext fun j => propext (h i j)]
/-- lay b where a lies -/
theorem cmp1 {G : Int} {n : Nat} {R : Rl} {a b : Int} (h : SPO G R) (ha : 0 ≤ a ∧ a < G) (hb : 0 ≤ b ∧ b < G) (hne : a ≠ b) (hh : ∀ R' : Rl, SPO G R' → SubR R R' → (R' a b ∨ R' b a) → Win G n R' b) : Win G (n + 1) R a := by
  refine Or.inr ⟨b, hb, fun z => hne z.symm, fun hy => ⟨?_, ?_⟩, fun hy => ?_⟩
  · exact hh _ (jn_spo h hb ha (fun z => hne z.symm) hy.2.1) jn_sub (Or.inr jn_has)
  · exact hh _ (jn_spo h ha hb hne hy.2.2) jn_sub (Or.inl jn_has)
  · refine hh R h (fun _ _ z => z) ?_
    by_cases q1 : R a b
    · exact Or.inl q1
    · by_cases q2 : R b a
      · exact Or.inr q2
      · exact absurd ⟨ha, q1, q2⟩ hy
/-- lay a, then b -/
theorem cmp2 {G : Int} {n : Nat} {R : Rl} {a b y : Int} (h : SPO G R) (ha : 0 ≤ a ∧ a < G) (hb : 0 ≤ b ∧ b < G) (hne : a ≠ b) (hh : ∀ R' : Rl, SPO G R' → SubR R R' → (R' a b ∨ R' b a) → Win G n R' b) : Win G (n + 2) R y := by
  have hk : ∀ R' : Rl, SPO G R' → SubR R R' → Win G (n + 1) R' a := fun R' h' hs => cmp1 h' ha hb hne (fun R2 h2 hs2 => hh R2 h2 (fun i j z => hs2 i j (hs i j z)))
  by_cases e : a = y
  · rw [← e]; exact Or.inl (hk R h (fun _ _ z => z))
  · exact Or.inr ⟨a, ha, e, fun hy => ⟨hk _ (jn_spo h ha hy.1 e hy.2.1) jn_sub, hk _ (jn_spo h hy.1 ha (fun z => e z.symm) hy.2.2) jn_sub⟩, fun hy => hk R h (fun _ _ z => z)⟩
