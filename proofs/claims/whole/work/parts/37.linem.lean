/-! orders of all sacks: permutations, where a line turns -/
def qd (b x : Int) : Nat → Int
  | 0 => x
  | j + 1 => qd b x j / b
def dg (b x n k : Int) : Int := qd b x (n - 1 - k).toNat % b
def Pm (n : Int) (f : Int → Int) : Prop := (∀ k : Int, 0 ≤ k → k < n → 0 ≤ f k ∧ f k < n) ∧ ∀ j k : Int, 0 ≤ j → j < n → 0 ≤ k → k < n → f j = f k → j = k
def Vd (b n x : Int) : Prop := qd b x n.toNat = 0 ∧ Pm n (dg b x n)
/-- the line turns between the places i and j -/
def trn (T f : Int → Int) (i j : Int) : Prop := ¬ (∀ k : Int, i ≤ k → k < j → T (f (k + 1)) ≤ T (f k)) ∧ ¬ (∀ k : Int, i ≤ k → k < j → T (f k) ≤ T (f (k + 1)))
noncomputable def opl (T f : Int → Int) (n : Int) : Int := sumN (fun i => sumN (fun o => b2i (i < o ∧ trn T f i o)) n.toNat) n.toNat
theorem Pm.c {n : Int} {f g : Int → Int} (h : Pm n f) (e : ∀ k : Int, 0 ≤ k → k < n → g k = f k) : Pm n g := ⟨fun k k0 k1 => by rw [e k k0 k1]; exact h.1 k k0 k1, fun j k j0 j1 k0 k1 q => h.2 j k j0 j1 k0 k1 (by rw [← e j j0 j1, ← e k k0 k1]; exact q)⟩
theorem trn_c {T T' f g : Int → Int} {n i j : Int} (hf : ∀ k : Int, 0 ≤ k → k < n → g k = f k) (hT : ∀ k : Int, 0 ≤ k → k < n → T' (g k) = T (f k)) (hi : 0 ≤ i) (hj : j < n) : trn T f i j ↔ trn T' g i j := by
  unfold trn
  have e : ∀ k : Int, i ≤ k → k < j → T' (g (k + 1)) = T (f (k + 1)) ∧ T' (g k) = T (f k) := fun k k0 k1 => ⟨hT _ (by omega) (by omega), hT _ (by omega) (by omega)⟩
  exact ⟨fun h => ⟨fun q => h.1 (fun k k0 k1 => by have := q k k0 k1; rw [(e k k0 k1).1, (e k k0 k1).2] at this; exact this), fun q => h.2 (fun k k0 k1 => by have := q k k0 k1; rw [(e k k0 k1).1, (e k k0 k1).2] at this; exact this)⟩, fun h => ⟨fun q => h.1 (fun k k0 k1 => by rw [(e k k0 k1).1, (e k k0 k1).2]; exact q k k0 k1), fun q => h.2 (fun k k0 k1 => by rw [(e k k0 k1).1, (e k k0 k1).2]; exact q k k0 k1)⟩⟩
theorem opl_c {T T' f g : Int → Int} {n : Int} (hn : 0 ≤ n ∧ n ≤ 6) (hf : ∀ k : Int, 0 ≤ k → k < n → g k = f k) (hT : ∀ k : Int, 0 ≤ k → k < n → T' (g k) = T (f k)) : opl T f n = opl T' g n := sumN_c _ (fun i i0 i1 => sumN_c _ (fun o o0 o1 => b2i_c ⟨fun q => ⟨q.1, (trn_c hf hT (by omega) (by omega)).mp q.2⟩, fun q => ⟨q.1, (trn_c hf hT (by omega) (by omega)).mpr q.2⟩⟩))
theorem sum_nn0 {f : Int → Int} : ∀ n : Nat, (∀ i : Int, 0 ≤ i → i < n → 0 ≤ f i) → sumN f n = 0 → ∀ i : Int, 0 ≤ i → i < n → f i = 0
  | 0, _, _, _, _, _ => by omega
  | n + 1, h, e, i, i0, i1 => by
    have e1 : sumN f n + f (n : Int) = 0 := e
    have h1 := h (n : Int) (by omega) (by omega)
    have h2 : 0 ≤ sumN f n := by
      have := sumN_le (f := fun _ => 0) (g := f) n (fun i i0 i1 => h i i0 (by omega))
      rw [sumN_0 n (fun _ _ _ => rfl)] at this
      exact this
    by_cases q : i = (n : Int)
    · rw [q]; omega
    · exact sum_nn0 n (fun i i0 i1 => h i i0 (by omega)) (by omega) i i0 (by omega)
theorem perm_le1 {n : Int} {f : Int → Int} (h : Pm n f) (s : Int) : ∀ N : Nat, (N : Int) ≤ n → cntP (fun k => f k = s) N ≤ 1
  | 0, _ => by show (0 : Int) ≤ 1; decide
  | N + 1, hN => by
    have := perm_le1 h s N (by omega)
    show cntP (fun k => f k = s) N + b2i (f (N : Int) = s) ≤ 1
    by_cases q : f (N : Int) = s
    · rw [show cntP (fun k => f k = s) N = 0 from sumN_0 N (fun i i0 i1 => b2i_f (fun z => by have := h.2 i (N : Int) i0 (by omega) (by omega) (by omega) (z.trans q.symm); omega)), b2i_t q]; decide
    · rw [b2i_f q]; omega
theorem perm_ex {n : Int} {f : Int → Int} (hn : 0 ≤ n) (h : Pm n f) (s : Int) (s0 : 0 ≤ s) (s1 : s < n) : ∃ k : Int, (0 ≤ k ∧ k < n) ∧ f k = s := by
  have e1 : sumN (fun s => sumN (fun k => b2i (f k = s)) n.toNat) n.toNat = n := by
    rw [sumN_swap, sumN_c (g := fun _ => 1) n.toNat (fun k k0 k1 => ?_)]
    · have : ∀ m : Nat, sumN (fun _ => 1) m = m := fun m => by
        induction m with
        | zero => rfl
        | succ m ih => show sumN (fun _ => 1) m + 1 = _; rw [ih]; rfl
      rw [this]; omega
    · have hk := h.1 k k0 (by omega)
      have := cnt_one (l := f k) n.toNat hk.1 (by omega)
      rw [← this]
      exact sumN_c _ (fun i _ _ => b2i_c ⟨fun q => q.symm, fun q => q.symm⟩)
  have e2 : sumN (fun s => 1 - sumN (fun k => b2i (f k = s)) n.toNat) n.toNat = 0 := by
    have e3 := sumN_add (f := fun s => 1 - sumN (fun k => b2i (f k = s)) n.toNat) (g := fun s => sumN (fun k => b2i (f k = s)) n.toNat) n.toNat
    have this : ∀ m : Nat, sumN (fun i => 1 - sumN (fun k => b2i (f k = i)) n.toNat + sumN (fun k => b2i (f k = i)) n.toNat) m = m := fun m => by
      induction m with
      | zero => rfl
      | succ m ih => show sumN _ m + _ = _; rw [ih]; dsimp only; omega
    rw [this, e1] at e3
    omega
  have e4 := sum_nn0 n.toNat (fun i _ _ => by have := perm_le1 h i n.toNat (by omega); unfold cntP at this; dsimp only at this; omega) e2 s s0 (by omega)
  refine Classical.byContradiction fun q => ?_
  rw [sumN_0 (f := fun k => b2i (f k = s)) n.toNat (fun i i0 i1 => b2i_f (fun z => q ⟨i, by omega, z⟩))] at e4
  omega
theorem sum_perm {n : Int} {f g : Int → Int} (hn : 0 ≤ n) (h : Pm n f) : sumN (fun k => g (f k)) n.toNat = sumN g n.toNat := by
  rw [sumN_c (g := fun k => sumN (fun j => if f k = j then g j else 0) n.toNat) n.toNat (fun k k0 k1 => (sum_one (f := g) (s := f k) n.toNat (by have := h.1 k k0 (by omega); omega)).symm), sumN_swap]
  refine sumN_c _ (fun j j0 j1 => ?_)
  obtain ⟨k0, k1, k2⟩ := perm_ex hn h j j0 (by omega)
  refine Eq.trans ?_ (sum_one (f := fun _ => g j) (s := k0) n.toNat (by omega))
  refine sumN_c _ (fun k q0 q1 => ?_)
  by_cases q : k0 = k
  · rw [if_pos q, if_pos (by rw [← q]; exact k2)]
  · rw [if_neg q, if_neg (fun z => q (h.2 k0 k k1.1 k1.2 q0 (by omega) (k2.trans z.symm)))]
theorem half {f : Int → Int → Int} {n : Nat} (hs : ∀ a b, f a b = f b a) (hd : ∀ a, f a a = 0) : sumN (fun a => sumN (fun b => f a b) n) n = 2 * sumN (fun a => sumN (fun b => if a < b then f a b else 0) n) n := by
  have e1 : sumN (fun a => sumN (fun b => f a b) n) n = sumN (fun a => sumN (fun b => if a < b then f a b else 0) n + sumN (fun b => if b < a then f a b else 0) n) n := sumN_c _ (fun a _ _ => by
    rw [← sumN_add]
    refine sumN_c _ (fun b _ _ => ?_)
    rcases Int.lt_trichotomy a b with q | q | q
    · rw [if_pos q, if_neg (by omega)]; omega
    · rw [q, hd, if_neg (Int.lt_irrefl b)]; rfl
    · rw [if_neg (by omega), if_pos q]; omega)
  have e2 : sumN (fun a => sumN (fun b => if b < a then f a b else 0) n) n = sumN (fun a => sumN (fun b => if a < b then f a b else 0) n) n := by
    rw [sumN_swap]
    refine sumN_c _ (fun a _ _ => sumN_c _ (fun b _ _ => ?_))
    by_cases q : a < b
    · rw [if_pos q, if_pos q, hs]
    · rw [if_neg q, if_neg q]
  rw [e1, sumN_add, e2]
  omega
/-! what neighbours in the line say -/
def chS (T f : Int → Int) (N : Int) : Rl := fun a b => a = b ∨ ∃ k : Int, 0 ≤ k ∧ k + 1 < N ∧ T (f k) = T (f (k + 1)) ∧ ((a = f (k + 1) ∧ b = f k) ∨ (a = f k ∧ b = f (k + 1)))
def chO (T f : Int → Int) (N : Int) : Rl := fun a b => ∃ k : Int, 0 ≤ k ∧ k + 1 < N ∧ ((T (f k) < T (f (k + 1)) ∧ a = f (k + 1) ∧ b = f k) ∨ (T (f (k + 1)) < T (f k) ∧ a = f k ∧ b = f (k + 1)))
theorem chS_r {T f : Int → Int} {N : Int} : ∀ a, chS T f N a a := fun _ => Or.inl rfl
theorem chS_s {T f : Int → Int} {N : Int} : ∀ a b, chS T f N a b → chS T f N b a := by
  rintro a b (q | ⟨k, k0, k1, k2, k3⟩)
  · exact Or.inl q.symm
  · exact Or.inr ⟨k, k0, k1, k2, k3.elim (fun z => Or.inr ⟨z.2, z.1⟩) (fun z => Or.inl ⟨z.2, z.1⟩)⟩
theorem ch_pot {T f : Int → Int} {N : Int} {a b : Int} (h : TC (rQ (chS T f N) (chO T f N)) a b) : T b < T a := by
  have hS : ∀ a b, TC (chS T f N) a b → T a = T b := fun a b h => h.ind (T := fun a b => T a = T b) (fun a b q => by
    rcases q with q | ⟨k, k0, k1, k2, k3 | k3⟩
    · rw [q]
    · rw [k3.1, k3.2, k2]
    · rw [k3.1, k3.2, k2]) (fun _ _ _ q q' => q.trans q')
  refine h.ind (T := fun a b => T b < T a) (fun a b q => ?_) (fun _ _ _ q q' => Int.lt_trans q' q)
  obtain ⟨c, d, q1, ⟨k, k0, k1, q2⟩, q3⟩ := q
  have e1 := hS _ _ q1
  have e3 := hS _ _ q3
  rcases q2 with ⟨r0, r1, r2⟩ | ⟨r0, r1, r2⟩
  · rw [← r1, ← r2] at r0; omega
  · rw [← r1, ← r2] at r0; omega
theorem ch_can {T f : Int → Int} {N : Int} (i : Int) : ¬ TC (rQ (chS T f N) (chO T f N)) i i := fun h => Int.lt_irrefl _ (ch_pot h)
def chR (T f : Int → Int) (N : Int) : Rl := TC (rG (chS T f N) (chO T f N))
theorem chR_rt {T f : Int → Int} {N : Int} : RT (chR T f N) := ⟨fun i => TC.base (Or.inl (chS_r i)), fun _ _ _ h h' => h.trans h'⟩
def PT (T f : Int → Int) (i j : Int) : Prop := (i ≤ j → ∀ k : Int, i ≤ k → k < j → T (f (k + 1)) ≤ T (f k)) ∧ (j ≤ i → ∀ k : Int, j ≤ k → k < i → T (f k) ≤ T (f (k + 1)))
theorem PT.tr {T f : Int → Int} {i j l : Int} (h : PT T f i j) (h' : PT T f j l) : PT T f i l := by
  refine ⟨fun q k k0 k1 => ?_, fun q k k0 k1 => ?_⟩
  · by_cases e1 : k < j
    · rcases Int.lt_or_le j i with z | z
      · omega
      · exact h.1 z k k0 e1
    · rcases Int.lt_or_le l j with z | z
      · omega
      · exact h'.1 z k (by omega) k1
  · by_cases e1 : k < j
    · rcases Int.lt_or_le j l with z | z
      · omega
      · exact h'.2 z k k0 e1
    · rcases Int.lt_or_le i j with z | z
      · omega
      · exact h.2 z k (by omega) k1
theorem ch_pos {T f : Int → Int} {N : Int} (hp : Pm N f) {a b : Int} (h : chR T f N a b) : a = b ∨ ∃ i j : Int, (0 ≤ i ∧ i < N) ∧ (0 ≤ j ∧ j < N) ∧ f i = a ∧ f j = b ∧ PT T f i j := by
  refine h.ind (T := fun a b => a = b ∨ ∃ i j : Int, (0 ≤ i ∧ i < N) ∧ (0 ≤ j ∧ j < N) ∧ f i = a ∧ f j = b ∧ PT T f i j) (fun a b q => ?_) (fun a b c q q' => ?_)
  · have up : ∀ k : Int, T (f (k + 1)) ≤ T (f k) → PT T f k (k + 1) := fun k e => ⟨fun _ j j0 j1 => by rw [show j = k by omega]; exact e, fun q => by omega⟩
    have dn : ∀ k : Int, T (f k) ≤ T (f (k + 1)) → PT T f (k + 1) k := fun k e => ⟨fun q => by omega, fun _ j j0 j1 => by rw [show j = k by omega]; exact e⟩
    rcases q with (q | ⟨k, k0, k1, k2, k3 | k3⟩) | ⟨k, k0, k1, k3 | k3⟩
    · exact Or.inl q
    · exact Or.inr ⟨k + 1, k, by omega, by omega, k3.1.symm, k3.2.symm, dn k (by omega)⟩
    · exact Or.inr ⟨k, k + 1, by omega, by omega, k3.1.symm, k3.2.symm, up k (by omega)⟩
    · exact Or.inr ⟨k + 1, k, by omega, by omega, k3.2.1.symm, k3.2.2.symm, dn k (by omega)⟩
    · exact Or.inr ⟨k, k + 1, by omega, by omega, k3.2.1.symm, k3.2.2.symm, up k (by omega)⟩
  · rcases q with q | ⟨i, j, i0, j0, e1, e2, e3⟩
    · rw [q]; exact q'
    · rcases q' with q' | ⟨j', l, j0', l0, e1', e2', e3'⟩
      · rw [← q']; exact Or.inr ⟨i, j, i0, j0, e1, e2, e3⟩
      · have : j = j' := hp.2 j j' j0.1 j0.2 j0'.1 j0'.2 (e2.trans e1'.symm)
        subst this
        exact Or.inr ⟨i, l, i0, l0, e1, e2', e3.tr e3'⟩
theorem ch_dn {T f : Int → Int} {N i : Int} (i0 : 0 ≤ i) : ∀ d : Nat, i + d < N → (∀ k : Int, i ≤ k → k < i + d → T (f (k + 1)) ≤ T (f k)) → chR T f N (f i) (f (i + d))
  | 0, _, _ => by rw [show i + ((0 : Nat) : Int) = i by omega]; exact chR_rt.1 _
  | d + 1, h, hk => by
    refine chR_rt.2 _ _ _ (ch_dn i0 d (by omega) (fun k k0 k1 => hk k k0 (by omega))) (TC.base ?_)
    have e := hk (i + d) (by omega) (by omega)
    rw [show i + ((d + 1 : Nat) : Int) = i + d + 1 by omega]
    rcases Int.lt_or_eq_of_le e with q | q
    · exact Or.inr ⟨i + d, by omega, by omega, Or.inr ⟨q, rfl, rfl⟩⟩
    · exact Or.inl (Or.inr ⟨i + d, by omega, by omega, q.symm, Or.inr ⟨rfl, rfl⟩⟩)
theorem ch_up {T f : Int → Int} {N i : Int} (i0 : 0 ≤ i) : ∀ d : Nat, i + d < N → (∀ k : Int, i ≤ k → k < i + d → T (f k) ≤ T (f (k + 1))) → chR T f N (f (i + d)) (f i)
  | 0, _, _ => by rw [show i + ((0 : Nat) : Int) = i by omega]; exact chR_rt.1 _
  | d + 1, h, hk => by
    refine chR_rt.2 _ _ _ (TC.base ?_) (ch_up i0 d (by omega) (fun k k0 k1 => hk k k0 (by omega)))
    have e := hk (i + d) (by omega) (by omega)
    rw [show i + ((d + 1 : Nat) : Int) = i + d + 1 by omega]
    rcases Int.lt_or_eq_of_le e with q | q
    · exact Or.inr ⟨i + d, by omega, by omega, Or.inl ⟨q, rfl, rfl⟩⟩
    · exact Or.inl (Or.inr ⟨i + d, by omega, by omega, q, Or.inl ⟨rfl, rfl⟩⟩)
theorem ch_open {T f : Int → Int} {N i j : Int} (hp : Pm N f) (hi : 0 ≤ i) (hij : i < j) (hj : j < N) : (¬ chR T f N (f i) (f j) ∧ ¬ chR T f N (f j) (f i)) ↔ trn T f i j := by
  have ne : f i ≠ f j := fun q => by have := hp.2 i j hi (by omega) (by omega) hj q; omega
  have d1 : chR T f N (f i) (f j) ↔ ∀ k : Int, i ≤ k → k < j → T (f (k + 1)) ≤ T (f k) := by
    constructor
    · intro h
      rcases ch_pos hp h with q | ⟨i', j', i0, j0, e1, e2, e3⟩
      · exact absurd q ne
      · have a1 := hp.2 i' i i0.1 i0.2 hi (by omega) e1
        have a2 := hp.2 j' j j0.1 j0.2 (by omega) hj e2
        subst a1 a2
        exact e3.1 (by omega)
    · intro h
      have := ch_dn (T := T) (f := f) (N := N) hi (j - i).toNat (by omega) (fun k k0 k1 => h k k0 (by omega))
      rw [show i + ((j - i).toNat : Int) = j by omega] at this
      exact this
  have d2 : chR T f N (f j) (f i) ↔ ∀ k : Int, i ≤ k → k < j → T (f k) ≤ T (f (k + 1)) := by
    constructor
    · intro h
      rcases ch_pos hp h with q | ⟨i', j', i0, j0, e1, e2, e3⟩
      · exact absurd q.symm ne
      · have a1 := hp.2 i' j i0.1 i0.2 (by omega) hj e1
        have a2 := hp.2 j' i j0.1 j0.2 hi (by omega) e2
        subst a1 a2
        exact e3.2 (by omega)
    · intro h
      have := ch_up (T := T) (f := f) (N := N) hi (j - i).toNat (by omega) (fun k k0 k1 => h k k0 (by omega))
      rw [show i + ((j - i).toNat : Int) = j by omega] at this
      exact this
  unfold trn
  rw [d1, d2]
theorem opl_eq {T f : Int → Int} {n : Int} (hn : 0 ≤ n) (hp : Pm n f) : opnN (chR T f n) n = opl T f n := by
  have s1 : ∀ a b : Int, b2i (¬ chR T f n a b ∧ ¬ chR T f n b a) = b2i (¬ chR T f n b a ∧ ¬ chR T f n a b) := fun a b => b2i_c ⟨fun q => ⟨q.2, q.1⟩, fun q => ⟨q.2, q.1⟩⟩
  have z1 : ∀ a : Int, b2i (¬ chR T f n a a ∧ ¬ chR T f n a a) = 0 := fun a => b2i_f (fun q => q.1 (chR_rt.1 a))
  have h1 := half (n := n.toNat) (f := fun a b => b2i (¬ chR T f n a b ∧ ¬ chR T f n b a)) s1 z1
  have h2 := half (n := n.toNat) (f := fun a b => b2i (¬ chR T f n (f a) (f b) ∧ ¬ chR T f n (f b) (f a))) (fun a b => s1 (f a) (f b)) (fun a => z1 (f a))
  have h3 : sumN (fun a => sumN (fun b => b2i (¬ chR T f n (f a) (f b) ∧ ¬ chR T f n (f b) (f a))) n.toNat) n.toNat = sumN (fun a => sumN (fun b => b2i (¬ chR T f n a b ∧ ¬ chR T f n b a)) n.toNat) n.toNat := by
    rw [← sum_perm hn hp (g := fun a => sumN (fun b => b2i (¬ chR T f n a b ∧ ¬ chR T f n b a)) n.toNat)]
    refine sumN_c _ (fun a _ _ => ?_)
    exact sum_perm hn hp (g := fun b => b2i (¬ chR T f n (f a) b ∧ ¬ chR T f n b (f a)))
  have e1 : opnN (chR T f n) n = sumN (fun a => sumN (fun b => if a < b then b2i (¬ chR T f n a b ∧ ¬ chR T f n b a) else 0) n.toNat) n.toNat := sumN_c _ (fun a _ _ => sumN_c _ (fun b _ _ => by
    by_cases q : a < b
    · rw [if_pos q]; exact b2i_c ⟨fun z => z.2, fun z => ⟨q, z⟩⟩
    · rw [if_neg q]; exact b2i_f (fun z => q z.1)))
  have e2 : opl T f n = sumN (fun a => sumN (fun b => if a < b then b2i (¬ chR T f n (f a) (f b) ∧ ¬ chR T f n (f b) (f a)) else 0) n.toNat) n.toNat := sumN_c _ (fun a a0 a1 => sumN_c _ (fun b b0 b1 => by
    by_cases q : a < b
    · rw [if_pos q]; exact b2i_c ⟨fun z => (ch_open hp a0 q (by omega)).mpr z.2, fun z => ⟨q, (ch_open hp a0 q (by omega)).mp z⟩⟩
    · rw [if_neg q]; exact b2i_f (fun z => q z.1)))
  rw [e1, e2]
  omega
/-- what is told, out of all pairs -/
theorem opl_tot {T f : Int → Int} {n : Int} (hn : 0 ≤ n) : opl T f n = n * (n - 1) / 2 - sumN (fun i => sumN (fun o => b2i (i < o ∧ ¬ trn T f i o)) n.toNat) n.toNat := by
  have e1 := sumN_add (f := fun i => sumN (fun o => b2i (i < o ∧ trn T f i o)) n.toNat) (g := fun i => sumN (fun o => b2i (i < o ∧ ¬ trn T f i o)) n.toNat) n.toNat
  have e2 : ∀ m : Nat, 2 * sumN (fun o => sumN (fun i => b2i (i < o)) n.toNat) m = (m : Int) * ((m : Int) - 1) ∨ n.toNat < m := fun m => by
    induction m with
    | zero => exact Or.inl rfl
    | succ m ih =>
      by_cases q : n.toNat < m + 1
      · exact Or.inr q
      · refine Or.inl ?_
        show 2 * (sumN (fun o => sumN (fun i => b2i (i < o)) n.toNat) m + sumN (fun i => b2i (i < (m : Int))) n.toNat) = _
        have c1 : sumN (fun i => b2i (i < (m : Int))) n.toNat = m := by
          rw [sumN_ge (a := m) (by omega) (fun i i0 i1 => b2i_f (by omega))]
          have : ∀ k : Nat, k ≤ m → sumN (fun i => b2i (i < (m : Int))) k = k := fun k => by
            induction k with
            | zero => intro _; rfl
            | succ k ihk => intro hk; show sumN _ k + b2i _ = _; rw [ihk (by omega), b2i_t (by omega)]; rfl
          exact this m (Nat.le_refl m)
        rw [c1, Int.mul_add, ih.resolve_right (by omega)]
        rw [show ((m + 1 : Nat) : Int) = (m : Int) + 1 by omega, show (m : Int) + 1 - 1 = m by omega, Int.mul_sub, Int.add_mul]
        omega
  have e3 : sumN (fun i => sumN (fun o => b2i (i < o ∧ trn T f i o)) n.toNat + sumN (fun o => b2i (i < o ∧ ¬ trn T f i o)) n.toNat) n.toNat = sumN (fun o => sumN (fun i => b2i (i < o)) n.toNat) n.toNat := by
    rw [sumN_swap]
    refine sumN_c _ (fun i _ _ => ?_)
    rw [← sumN_add]
    refine sumN_c _ (fun o _ _ => ?_)
    by_cases q : i < o
    · by_cases q2 : trn T f i o
      · rw [b2i_t ⟨q, q2⟩, b2i_f (fun z => z.2 q2), b2i_t q]; rfl
      · rw [b2i_f (fun z => q2 z.2), b2i_t ⟨q, q2⟩, b2i_t q]; rfl
    · rw [b2i_f (fun z => q z.1), b2i_f (fun z => q z.1), b2i_f q]; rfl
  have e4 := (e2 n.toNat).resolve_right (by omega)
  rw [show ((n.toNat : Nat) : Int) = n by omega] at e4
  rw [e3] at e1
  show sumN (fun i => sumN (fun o => b2i (i < o ∧ trn T f i o)) n.toNat) n.toNat = _
  rw [← e4]
  omega
