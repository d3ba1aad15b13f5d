/-! what stays true from call to call: ranges of the book and of the pad; the world of both sides -/
theorem ffd_r {g : Int → Int} {sc n : Int} (hn : 0 ≤ n) : ∀ (m : Nat) (p : Int), 0 ≤ p → ffd g sc n m p = -6 ∨ (0 ≤ ffd g sc n m p ∧ ffd g sc n m p ≤ n)
  | 0, _, _ => Or.inl rfl
  | m + 1, p, hp => by
    unfold ffd
    by_cases h : p < n
    · rw [if_pos h]
      by_cases q : mayS g sc p
      · rw [if_pos q]; exact ffd_r hn m (p + 1) (by omega)
      · rw [if_neg q]; exact Or.inr ⟨hp, by omega⟩
    · rw [if_neg h]
      by_cases q : n % 2 = 1
      · rw [if_pos q]; exact Or.inl rfl
      · rw [if_neg q]; exact Or.inr ⟨hn, Int.le_refl _⟩
theorem ffd_ok {g : Int → Int} {sc n : Int} (hn : 0 ≤ n) : ∀ (m : Nat) (p : Int), (0 ≤ p ∧ p ≤ n) → n - p < m → ffd g sc n m p < 0 → n % 2 = 1 ∧ ∀ i : Int, p ≤ i → i < n → mayS g sc i
  | 0, p, hp, hm, _ => by omega
  | m + 1, p, hp, hm, hf => by
    unfold ffd at hf
    by_cases h : p < n
    · rw [if_pos h] at hf
      by_cases q : mayS g sc p
      · rw [if_pos q] at hf
        obtain ⟨e1, e2⟩ := ffd_ok hn m (p + 1) (by omega) (by omega) hf
        refine ⟨e1, fun i h0 h1 => ?_⟩
        by_cases e : i = p
        · rw [e]; exact q
        · exact e2 i (by omega) h1
      · rw [if_neg q] at hf; omega
    · rw [if_neg h] at hf
      by_cases q : n % 2 = 1
      · exact ⟨q, fun i h0 h1 => by omega⟩
      · rw [if_neg q] at hf; omega
theorem fault_r {t : BSt} {g : Int → Int} {n : Int} (hp : PadOk g n) : sp_fault t g n = -6 ∨ (0 ≤ sp_fault t g n ∧ sp_fault t g n ≤ n) := ffd_r hp.1.1 41 0 (Int.le_refl _)
theorem fault_line {t : BSt} {g : Int → Int} {n : Int} (ht : 2 ≤ t.1 ∧ t.1 ≤ 6) (hp : PadOk g n) (h : ¬ 0 ≤ sp_fault t g n) : LineOk g n ∧ SgnOk g n ∧ sp_fault t g n = -6 ∧ ∀ i : Int, 0 ≤ i → i < n → mayS g t.1 i := by
  have hr := fault_r (t := t) hp
  have hn := hp.1
  obtain ⟨e1, e2⟩ := ffd_ok (g := g) (sc := t.1) hn.1 41 0 ⟨Int.le_refl _, hn.1⟩ (by omega) (show ffd g t.1 n 41 0 < 0 by unfold sp_fault at h; omega)
  refine ⟨⟨⟨by omega, by omega, e1⟩, fun i h0 h1 h2 => ?_, hp.2⟩, fun i h0 h1 h2 => ?_, by omega, e2⟩
  · have := e2 i h0 h1
    unfold mayS at this
    rw [if_neg (by omega)] at this
    omega
  · have := e2 i h0 h1
    unfold mayS at this
    rw [if_pos h2] at this
    exact this
theorem StOk.mono {t : BSt} {B B' : Int} (h : StOk t B) (hB : B ≤ B') : StOk t B' := by
  obtain ⟨h1, h2, h3, h4, h5⟩ := h
  refine ⟨h1, h2, h3, fun k k0 k1 => ?_, fun i i0 i1 => ?_⟩
  · obtain ⟨a1, a2, a3, a4, a5, a6⟩ := h4 k k0 k1
    exact ⟨a1, a2, a3, a4, by omega, by omega⟩
  · obtain ⟨a1, a2⟩ := h5 i i0 i1
    exact ⟨by omega, a2⟩
/-- a line under way: sayings K, lifts L, count c of u -/
def LG (sc B : Int) (u : LSt) : Prop := 0 ≤ u.2.2 ∧ (∀ k : Int, 0 ≤ k → k < u.2.2 → (0 ≤ u.1 (5 * k) ∧ u.1 (5 * k) < sc) ∧ (0 ≤ u.1 (5 * k + 1) ∧ u.1 (5 * k + 1) < sc) ∧ u.1 (5 * k) ≠ u.1 (5 * k + 1) ∧ (0 ≤ u.1 (5 * k + 2) ∧ u.1 (5 * k + 2) ≤ 2) ∧ (0 ≤ u.1 (5 * k + 3) ∧ u.1 (5 * k + 3) ≤ B) ∧ (0 ≤ u.1 (5 * k + 4) ∧ u.1 (5 * k + 4) ≤ B)) ∧ ∀ i : Int, 0 ≤ i → i < 6 → 0 ≤ u.2.1 i ∧ u.2.1 i ≤ B
theorem how_r {s : Int} : 0 ≤ how s ∧ how s ≤ 2 := by
  unfold how
  split
  · decide
  · split <;> decide
theorem LG.step {sc B p : Int} {g : Int → Int} {u : LSt} (h : LG sc B u) (h0 : 97 ≤ g p ∧ g p < 97 + sc) (h1 : 97 ≤ g (p - 2) ∧ g (p - 2) < 97 + sc) (h2 : g (p - 2) ≠ g p) (hs : sc ≤ 6) : LG sc (B + 1) (lstep g p u) := by
  obtain ⟨⟨K, L, c⟩⟩ := (⟨u⟩ : Nonempty LSt)
  obtain ⟨K, L, c⟩ := u
  obtain ⟨a1, a2, a3⟩ := h
  have hh := how_r (s := g (p - 1))
  have a1 : 0 ≤ c := a1
  have L' : ∀ i : Int, 0 ≤ i → i < 6 → 0 ≤ iup L (g p - 97) (L (g p - 97) + 1) i ∧ iup L (g p - 97) (L (g p - 97) + 1) i ≤ B + 1 := fun i i0 i1 => by
    have b1 : 0 ≤ L i ∧ L i ≤ B := a3 i i0 i1
    have b2 : 0 ≤ L (g p - 97) ∧ L (g p - 97) ≤ B := a3 (g p - 97) (by omega) (by omega)
    unfold iup
    split <;> omega
  refine ⟨show 0 ≤ c + 1 by omega, fun k k0 k1 => ?_, L'⟩
  have k1 : k < c + 1 := k1
  show (0 ≤ ladd K (iup L (g p - 97) (L (g p - 97) + 1)) c (g p - 97) (g (p - 2) - 97) (how (g (p - 1))) (5 * k) ∧ _) ∧ _
  by_cases e : k = c
  · subst e
    have l1 := L' (g p - 97) (by omega) (by omega)
    have l2 := L' (g (p - 2) - 97) (by omega) (by omega)
    have e0 : ∀ K' L' : Int → Int, ∀ s r w : Int, ladd K' L' k s r w (5 * k) = s := fun K' L' s r w => if_pos rfl
    have e1 : ∀ K' L' : Int → Int, ∀ s r w : Int, ladd K' L' k s r w (5 * k + 1) = r := fun K' L' s r w => by unfold ladd; rw [if_neg (by omega), if_pos rfl]
    have e2 : ∀ K' L' : Int → Int, ∀ s r w : Int, ladd K' L' k s r w (5 * k + 2) = w := fun K' L' s r w => by unfold ladd; rw [if_neg (by omega), if_neg (by omega), if_pos rfl]
    have e3 : ∀ K' L' : Int → Int, ∀ s r w : Int, ladd K' L' k s r w (5 * k + 3) = L' s := fun K' L' s r w => by unfold ladd; rw [if_neg (by omega), if_neg (by omega), if_neg (by omega), if_pos rfl]
    have e4 : ∀ K' L' : Int → Int, ∀ s r w : Int, ladd K' L' k s r w (5 * k + 4) = L' r := fun K' L' s r w => by unfold ladd; rw [if_neg (by omega), if_neg (by omega), if_neg (by omega), if_neg (by omega), if_pos rfl]
    unfold lstep
    dsimp only
    rw [e0, e1, e2, e3, e4]
    exact ⟨by omega, by omega, by omega, hh, l1, l2⟩
  · have q := a2 k k0 (show k < c by omega)
    have eq : ∀ j : Int, 0 ≤ j → j < 5 → ∀ K' L' : Int → Int, ∀ s r w : Int, ladd K' L' c s r w (5 * k + j) = K' (5 * k + j) := fun j j0 j1 K' L' s r w => by unfold ladd; rw [if_neg (by omega), if_neg (by omega), if_neg (by omega), if_neg (by omega), if_neg (by omega)]
    have e0 : ∀ K' L' : Int → Int, ∀ s r w : Int, ladd K' L' c s r w (5 * k) = K' (5 * k) := fun K' L' s r w => by
      have := eq 0 (by decide) (by decide) K' L' s r w
      rwa [Int.add_zero] at this
    unfold lstep
    dsimp only
    rw [e0, eq 1 (by decide) (by decide), eq 2 (by decide) (by decide), eq 3 (by decide) (by decide), eq 4 (by decide) (by decide)]
    dsimp only at q
    exact ⟨q.1, q.2.1, q.2.2.1, q.2.2.2.1, by omega, by omega⟩
theorem LG_lnd {sc n : Int} {g : Int → Int} (hs : sc ≤ 6) (hg : ∀ i : Int, 0 ≤ i → i < n → mayS g sc i) : ∀ (m : Nat) (p B : Int) (u : LSt), 2 ≤ p → p % 2 = 0 → LG sc B u → LG sc (B + m) (lnd g n m p u) ∧ (n - p < m → p ≤ n + 1 → (lnd g n m p u).2.2 = u.2.2 + (n + 1 - p) / 2)
  | 0, p, B, u, hp, h2, h => ⟨by rw [show B + ((0 : Nat) : Int) = B by omega]; exact h, fun q q2 => by show u.2.2 = _; omega⟩
  | m + 1, p, B, u, hp, h2, h => by
    show LG sc (B + ((m + 1 : Nat) : Int)) (if p < n then _ else _) ∧ (n - p < ((m + 1 : Nat) : Int) → p ≤ n + 1 → (if p < n then _ else _ : LSt).2.2 = _)
    by_cases q : p < n
    · rw [if_pos q]
      have m1 := hg p (by omega) q
      have m2 := hg (p - 2) (by omega) (by omega)
      unfold mayS at m1 m2
      rw [if_neg (by omega)] at m1 m2
      have hst := h.step (g := g) (p := p) (by omega) (by omega) (by omega) hs
      obtain ⟨i1, i2⟩ := LG_lnd hs hg m (p + 2) (B + 1) _ (by omega) (by omega) hst
      refine ⟨by rw [show B + ((m + 1 : Nat) : Int) = B + 1 + m by omega]; exact i1, fun a c => ?_⟩
      rw [i2 (by omega) (by omega)]
      show u.2.2 + 1 + _ = _
      omega
    · rw [if_neg q]
      refine ⟨⟨h.1, fun k k0 k1 => ?_, fun i i0 i1 => ?_⟩, fun a c => by omega⟩
      · obtain ⟨a1, a2, a3, a4, a5, a6⟩ := h.2.1 k k0 k1
        exact ⟨a1, a2, a3, a4, by omega, by omega⟩
      · have := h.2.2 i i0 i1
        omega
theorem StOk.line {t : BSt} {g : Int → Int} {n B : Int} (h : StOk t B) (hp : PadOk g n) : StOk (sp_line t g n).2.1 (B + 42) ∧ PadOk g (sp_line t g n).2.2 := by
  unfold sp_line
  by_cases hf : 0 ≤ sp_fault t g n
  · rw [if_pos hf]; exact ⟨h.mono (by omega), hp⟩
  · rw [if_neg hf]
    by_cases hc : 12 < t.2.1 + n / 2
    · rw [if_pos hc]; exact ⟨h.mono (by omega), hp⟩
    · rw [if_neg hc]
      obtain ⟨l1, l2, l3, l4⟩ := fault_line h.1 hp hf
      obtain ⟨h1, h2, h3, h4, h5⟩ := h
      have m0 := l4 0 (by decide) (by have := l1.1; omega)
      unfold mayS at m0
      rw [if_neg (by decide)] at m0
      have hl : LG t.1 (B + 1) (t.2.2.2.1, iup t.2.2.2.2.1 (g 0 - 97) (t.2.2.2.2.1 (g 0 - 97) + 1), t.2.1) := by
        refine ⟨h2.1, fun k k0 k1 => ?_, fun i i0 i1 => ?_⟩
        · obtain ⟨a1, a2, a3, a4, a5, a6⟩ := h4 k k0 k1
          exact ⟨a1, a2, a3, a4, ⟨a5.1, Int.le_trans a5.2 (by omega)⟩, ⟨a6.1, Int.le_trans a6.2 (by omega)⟩⟩
        · have b1 := (h5 i i0 i1).1
          have b2 := (h5 (g 0 - 97) (by omega) (by omega)).1
          show 0 ≤ iup t.2.2.2.2.1 (g 0 - 97) (t.2.2.2.2.1 (g 0 - 97) + 1) i ∧ iup t.2.2.2.2.1 (g 0 - 97) (t.2.2.2.2.1 (g 0 - 97) + 1) i ≤ B + 1
          unfold iup
          split <;> omega
      obtain ⟨r1, r2⟩ := LG_lnd (n := n) h1.2 l4 41 2 (B + 1) _ (by decide) (by decide) hl
      have r3 := r2 (by have := hp.1; omega) (by have := l1.1; omega)
      have e41 : B + 1 + ((41 : Nat) : Int) = B + 42 := by omega
      rw [e41] at r1
      have rc : (sp_lnd t g n).2.2 = t.2.1 + (n + 1 - 2) / 2 := r3
      have hn := l1.1
      refine ⟨⟨h1, ?_, h3, r1.2.1, fun i i0 i1 => ⟨r1.2.2 i i0 i1, (h5 i i0 i1).2⟩⟩, ⟨show 0 ≤ (0 : Int) ∧ (0 : Int) ≤ 40 by decide, hp.2⟩⟩
      show 0 ≤ (sp_lnd t g n).2.2 ∧ (sp_lnd t g n).2.2 ≤ 12
      rw [rc]
      omega
theorem StOk.sacks {t : BSt} {B a : Int} (h : StOk t B) (hB : 0 ≤ B) : StOk (sp_sacks t a).2 B := by
  unfold sp_sacks
  by_cases q : 2 ≤ a ∧ a ≤ 6
  · rw [if_pos q]
    obtain ⟨h1, h2, h3, h4, h5⟩ := h
    exact ⟨q, show 0 ≤ (0 : Int) ∧ (0 : Int) ≤ 12 by decide, h3, fun k k0 k1 => absurd k1 (by show ¬ k < 0; omega), fun i i0 i1 => ⟨⟨Int.le_refl _, hB⟩, show 0 ≤ (0 : Int) ∧ (0 : Int) ≤ 999 ∧ (999 : Int) ≤ 999 by decide, (h5 i i0 i1).2.2⟩⟩
  · rw [if_neg q]; exact h
theorem StOk.strike {t : BSt} {B : Int} (h : StOk t B) : StOk (sp_strike t).2 B := by
  unfold sp_strike
  by_cases q : t.2.1 = 0
  · rw [if_pos q]; exact h
  · rw [if_neg q]
    obtain ⟨h1, h2, h3, h4, h5⟩ := h
    exact ⟨h1, by show 0 ≤ t.2.1 - 1 ∧ t.2.1 - 1 ≤ 12; omega, h3, fun k k0 k1 => h4 k k0 (by have k1 : k < t.2.1 - 1 := k1; omega), h5⟩
theorem StOk.toll {t : BSt} {B r v : Int} (h : StOk t B) : StOk (sp_toll t r v).2 B := by
  unfold sp_toll
  by_cases q : (0 ≤ r ∧ r ≤ 5) ∧ 0 ≤ v ∧ v ≤ 99
  · rw [if_pos q]
    obtain ⟨h1, h2, h3, h4, h5⟩ := h
    refine ⟨h1, h2, h3, h4, fun i i0 i1 => ?_⟩
    obtain ⟨a1, a2, a3, a4⟩ := h5 i i0 i1
    refine ⟨a1, a2, ?_, a4⟩
    show 0 ≤ iup t.2.2.2.2.2.2.2.1 r v i ∧ iup t.2.2.2.2.2.2.2.1 r v i ≤ 99
    unfold iup
    split <;> omega
  · rw [if_neg q]; exact h
theorem StOk.known {t : BSt} {B s a b : Int} (h : StOk t B) : StOk (sp_known t s a b).2 B := by
  unfold sp_known
  by_cases q : 0 ≤ s ∧ s < t.1
  · rw [if_pos q]
    by_cases q2 : 0 ≤ a ∧ a ≤ b ∧ b ≤ 999
    · rw [if_pos q2]
      obtain ⟨h1, h2, h3, h4, h5⟩ := h
      refine ⟨h1, h2, h3, h4, fun i i0 i1 => ?_⟩
      obtain ⟨a1, a2, a3, a4⟩ := h5 i i0 i1
      refine ⟨a1, ?_, a3, a4⟩
      show 0 ≤ iup t.2.2.2.2.2.1 s a i ∧ iup t.2.2.2.2.2.1 s a i ≤ iup t.2.2.2.2.2.2.1 s b i ∧ iup t.2.2.2.2.2.2.1 s b i ≤ 999
      unfold iup
      by_cases e : i = s
      · rw [if_pos e, if_pos e]; omega
      · rw [if_neg e, if_neg e]; exact a2
    · rw [if_neg q2]; exact h
  · rw [if_neg q]; exact h
theorem StOk.loss {t : BSt} {B v : Int} (h : StOk t B) : StOk (sp_loss t v).2 B := by
  unfold sp_loss
  by_cases q : 0 ≤ v ∧ v ≤ 20
  · rw [if_pos q]
    obtain ⟨h1, h2, h3, h4, h5⟩ := h
    exact ⟨h1, h2, q, h4, h5⟩
  · rw [if_neg q]; exact h
theorem StOk.weight {t : BSt} {B s v : Int} (h : StOk t B) : StOk (sp_weight t s v).2 B := by
  unfold sp_weight
  by_cases q : 0 ≤ s ∧ s < t.1
  · rw [if_pos q]
    by_cases q2 : 0 ≤ v ∧ v ≤ 99
    · rw [if_pos q2]
      obtain ⟨h1, h2, h3, h4, h5⟩ := h
      refine ⟨h1, h2, h3, h4, fun i i0 i1 => ?_⟩
      obtain ⟨a1, a2, a3, a4⟩ := h5 i i0 i1
      refine ⟨a1, a2, a3, ?_⟩
      show 0 ≤ iup t.2.2.2.2.2.2.2.2 s v i ∧ iup t.2.2.2.2.2.2.2.2 s v i ≤ 99
      unfold iup
      split <;> omega
    · rw [if_neg q2]; exact h
  · rw [if_neg q]; exact h
theorem PadOk.say {g : Int → Int} {n a : Int} (h : PadOk g n) : PadOk (sp_say g n a).2.1 (sp_say g n a).2.2 := by
  unfold sp_say
  by_cases q : 33 ≤ a ∧ a ≤ 126
  · rw [if_pos q]
    by_cases q2 : n = 40
    · rw [if_pos q2]; exact h
    · rw [if_neg q2]
      refine ⟨by have := h.1; show 0 ≤ n + 1 ∧ n + 1 ≤ 40; omega, fun i i0 i1 => ?_⟩
      have := h.2 i i0 i1
      show -1000 ≤ iup g n a i ∧ iup g n a i ≤ 1000
      unfold iup
      split <;> omega
  · rw [if_neg q]; exact h
theorem bk0_ok : StOk bk0 0 := by
  refine ⟨by decide, by decide, by decide, fun k k0 k1 => absurd k1 (by show ¬ k < 0; omega), fun i i0 i1 => ⟨show 0 ≤ (0 : Int) ∧ (0 : Int) ≤ 0 by decide, show 0 ≤ (0 : Int) ∧ (0 : Int) ≤ 999 ∧ (999 : Int) ≤ 999 by decide, show 0 ≤ (10 : Int) ∧ (10 : Int) ≤ 99 by decide, show 0 ≤ (50 : Int) ∧ (50 : Int) ≤ 99 by decide⟩⟩
theorem pad0_ok : PadOk (fun _ => 0) 0 := ⟨by decide, fun _ _ _ => show -1000 ≤ (0 : Int) ∧ (0 : Int) ≤ 1000 by decide⟩
/-- where the images and the planners lie -/
def Lay (N xa : Nat) (im pl : Nat → Option Nat) : Prop := xa + 55 ≤ N ∧ (∀ i q : Nat, im i = some q → i < 2 ∧ xa + 55 ≤ q ∧ q + 19 ≤ N) ∧ (∀ k p : Nat, pl k = some p → (1 ≤ k ∧ k ≤ 5) ∧ xa + 55 ≤ p ∧ p + 2 ≤ N) ∧ (∀ i j q r : Nat, i ≠ j → im i = some q → im j = some r → q + 19 ≤ r ∨ r + 19 ≤ q) ∧ (∀ i k q p : Nat, im i = some q → pl k = some p → q + 19 ≤ p ∨ p + 2 ≤ q) ∧ ∀ k j p r : Nat, k ≠ j → pl k = some p → pl j = some r → p + 2 ≤ r ∨ r + 2 ≤ p
/-- the images and the planners -/
def Rst (S : Sh) (μ : Mu) (xa : Nat) (im pl : Nat → Option Nat) (B : Int) : Prop := (∀ i : Nat, i < 2 → (im i = none ∧ μ (xa + 54) (i : Int) = 0) ∨ ∃ (q : Nat) (t' : BSt), im i = some q ∧ BookS S q ∧ BkAt μ q t' ∧ MiAt (μ (xa + 53)) (i : Int) t' ∧ μ (xa + 54) (i : Int) = 1 ∧ StOk t' B) ∧ (∀ k p : Nat, pl k = some p → PlnS S p (cdN (k - 1)) ∧ PlC μ p (k : Int) ∧ PlM μ p (k : Int)) ∧ ∀ z : Int, μ (xa + 54) z = 0 ∨ μ (xa + 54) z = 1
def Sim (S : Sh) (μ : Mu) (xa : Nat) (im pl : Nat → Option Nat) (t : BSt) (g : Int → Int) (n B : Int) : Prop := (LsS S xa im pl ∧ ModS S (xa + 33) ∧ Lay S.1 xa im pl) ∧ LsAt μ xa t g n ∧ MoAt μ (xa + 33) t g n ∧ StOk t B ∧ PadOk g n ∧ Rst S μ xa im pl B
theorem Rst.kp {S : Sh} {μ μ' : Mu} {xa : Nat} {im pl : Nat → Option Nat} {B B' : Int} (h : Rst S μ xa im pl B) (hL : Lay S.1 xa im pl) (e : ∀ q : Nat, xa + 53 ≤ q → μ' q = μ q) (hB : B ≤ B') : Rst S μ' xa im pl B' := by
  obtain ⟨h1, h2, h3⟩ := h
  refine ⟨fun i hi => ?_, fun k p hp => ?_, fun z => by rw [e _ (by omega)]; exact h3 z⟩
  · rcases h1 i hi with ⟨a1, a2⟩ | ⟨q, t', a1, a2, a3, a4, a5, a6⟩
    · exact Or.inl ⟨a1, by rw [e _ (by omega)]; exact a2⟩
    · have := (hL.2.1 i q a1).2
      exact Or.inr ⟨q, t', a1, a2, a3.kept (fun r r0 r1 => e r (by omega)), by rw [e _ (by omega)]; exact a4, by rw [e _ (by omega)]; exact a5, a6.mono hB⟩
  · obtain ⟨a1, a2, a3⟩ := h2 k p hp
    have := (hL.2.2.1 k p hp).2
    refine ⟨a1, by unfold PlC; rw [e p (by omega)]; exact a2, fun w w1 w2 => by rw [e (p + 1) (by omega)]; exact a3 w w1 w2⟩
theorem Sim.mo {S : Sh} {μ μ1 : Mu} {xa : Nat} {im pl : Nat → Option Nat} {t : BSt} {g : Int → Int} {n B : Int} (h : Sim S μ xa im pl t g n B) (o1 : Out μ μ1 xa 33) : MoAt μ1 (xa + 33) t g n := h.2.2.1.kept (fun q q0 q1 => o1 q (by omega))
theorem Sim.upd {S : Sh} {μ μ1 μ2 : Mu} {xa : Nat} {im pl : Nat → Option Nat} {t t' : BSt} {g g' : Int → Int} {n n' B : Int} (h : Sim S μ xa im pl t g n B) (o1 : Out μ μ1 xa 33) (o2 : Out μ1 μ2 (xa + 33) 20) (h1 : LsAt μ1 xa t' g' n') (h2 : MoAt μ2 (xa + 33) t' g' n') (hok : StOk t' (B + 42)) (hp : PadOk g' n') : Sim S μ2 xa im pl t' g' n' (B + 42) :=
  ⟨h.1, h1.kept (fun q q0 q1 => o2 q (by omega)), h2, hok, hp, h.2.2.2.2.2.kp h.1.2.2 (fun q hq => (o2 q (by omega)).trans (o1 q (by omega))) (by omega)⟩
/-- the room that is kept for what may yet be made -/
def po (q : Option Nat) (v : Nat) : Nat := match q with
  | none => v
  | some _ => 0
def Pot (v w : Nat) (im pl : Nat → Option Nat) : Nat := po (im 0) v + po (im 1) v + (po (pl 1) w + po (pl 2) w + po (pl 3) w + po (pl 4) w + po (pl 5) w)
def KB (k : Nat × Nat) (im pl : Nat → Option Nat) : Prop := k.1 + Pot 19 2 im pl ≤ 600000 ∧ k.2 + Pot 111 59052 im pl ≤ 7302250
theorem Pot_im {v w q i : Nat} {im pl : Nat → Option Nat} (hi : i < 2) (h : im i = none) : Pot v w (fun j => if j = i then some q else im j) pl + v = Pot v w im pl := by
  unfold Pot
  rcases (show i = 0 ∨ i = 1 by omega) with e | e <;> subst e <;> rw [h] <;> simp [po] <;> omega
theorem Pot_pl {v w q i : Nat} {im pl : Nat → Option Nat} (hi : 1 ≤ i ∧ i ≤ 5) (h : pl i = none) : Pot v w im (fun j => if j = i then some q else pl j) + w = Pot v w im pl := by
  unfold Pot
  rcases (show i = 1 ∨ i = 2 ∨ i = 3 ∨ i = 4 ∨ i = 5 by omega) with e | e | e | e | e <;> subst e <;> rw [h] <;> simp [po] <;> omega
