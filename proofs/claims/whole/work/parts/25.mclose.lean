/-! the model: closing its two tables of sacks -/
/-- a table of 36 truths says R -/
def Mat (f : Int → Int) (R : Rl) : Prop := ∀ a b : Int, 0 ≤ a → a < 6 → 0 ≤ b → b < 6 → f (6 * a + b) = b2i (R a b)
theorem Mat.eq {f : Int → Int} {R R' : Rl} (h : Mat f R) (e : ∀ a b : Int, 0 ≤ a → a < 6 → 0 ≤ b → b < 6 → (R a b ↔ R' a b)) : Mat f R' := fun a b a0 a6 b0 b6 => (h a b a0 a6 b0 b6).trans (b2i_c (e a b a0 a6 b0 b6))
theorem Mat.set {f : Int → Int} {R R' : Rl} {a b v : Int} (h : Mat f R) (ha : 0 ≤ a ∧ a < 6) (hb : 0 ≤ b ∧ b < 6) (hv : v = b2i (R' a b)) (e : ∀ x y : Int, 0 ≤ x → x < 6 → 0 ≤ y → y < 6 → ¬ (x = a ∧ y = b) → (R x y ↔ R' x y)) : Mat (iup f (6 * a + b) v) R' := by
  intro x y x0 x6 y0 y6
  by_cases q : x = a ∧ y = b
  · obtain ⟨rfl, rfl⟩ := q
    rw [iup_same]; exact hv
  · rw [iup_ne (by omega), h x y x0 x6 y0 y6]
    exact b2i_c (e x y x0 x6 y0 y6 q)
def it2 (S : Rl) : Nat → Rl → Rl
  | 0, T => T
  | n + 1, T => fun x y => it2 S n T x y ∨ (S x n ∧ it2 S n T n y)
def it3 (S : Rl) : Nat → Rl → Rl
  | 0, T => T
  | n + 1, T => fun x y => it3 S n T x y ∨ (it3 S n T x n ∧ S n y)
section MCLOSE
variable {l : Launch} {G : Glb} {S0 : Sh} {μ : Mu} {m : Nat} {T S : Rl}
set_option maxHeartbeats 4000000 in
set_option maxRecDepth 100000 in
theorem lb1_X8_close {μ0 : Mu} {P : Pst} {k a : Int} (hM : ModS S0 m) (hk : 0 ≤ k ∧ k < 6) (ha : 0 ≤ a ∧ a < 6) (hh : ∀ (f : Int → Int) (L : List Value), Mat f (fun x y => T x y ∨ ((x < (a + 1) ∨ (x = (a + 1) ∧ y < 0)) ∧ T x k ∧ T k y)) → V l G cX8_close (yX8_close, 4, (some FieldType.boolean), 0, 0, 0) P (0, 0) S0 (row μ0 (m + 9) f) 88 (.ref m :: vi k :: vi a :: L) []) : ∀ (N : Nat) (b : Int) (f : Int → Int), (0 ≤ b ∧ b ≤ 6) → 6 - b < N → Mat f (fun x y => T x y ∨ ((x < a ∨ (x = a ∧ y < b)) ∧ T x k ∧ T k y)) → V l G cX8_close (yX8_close, 4, (some FieldType.boolean), 0, 0, 0) P (0, 0) S0 (row μ0 (m + 9) f) 18 [.ref m, vi k, vi a, vi b] [] := by
  intro N
  induction N with
  | zero => intro b f h0 h1; omega
  | succ N ih =>
    intro b f h0 h1 hf
    have eT : (T a b ∨ ((a < a ∨ (a = a ∧ b < b)) ∧ T a k ∧ T k b)) ↔ T a b := ⟨fun z => z.elim id (fun y => absurd y.1 (by omega)), Or.inl⟩
    have eL : (T a k ∨ ((a < a ∨ (a = a ∧ k < b)) ∧ T a k ∧ T k k)) ↔ T a k := ⟨fun z => z.elim id (fun y => y.2.1), Or.inl⟩
    have eR : (T k b ∨ ((k < a ∨ (k = a ∧ b < b)) ∧ T k k ∧ T k b)) ↔ T k b := ⟨fun z => z.elim id (fun y => y.2.2), Or.inl⟩
    refine v_iload_n aX8_close_18 rfl ?_
    refine v_bipush (by decide) aX8_close_19 ?_
    refine v_icmp_ge 88 rfl aX8_close_21 (by omega) (by omega) (fun c21 => ?_) (fun c21 => ?_)
    · --
      exact hh f _ (hf.eq fun x y x0 x6 y0 y6 => ⟨fun z => z.imp id (fun w => ⟨by omega, w.2⟩), fun z => z.imp id (fun w => ⟨by omega, w.2⟩)⟩)
    · --
      refine v_aload_n aX8_close_24 rfl ?_
      refine v_getr aX8_close_25 fX8_39 hM.p rfl rfl ?_
      refine v_bipush (by decide) aX8_close_28 ?_
      refine v_iload_n aX8_close_30 rfl ?_
      refine v_imul aX8_close_31 ?_
      refine v_iload_n aX8_close_32 rfl ?_
      refine v_iadd aX8_close_33 ?_
      refine v_aload_n aX8_close_34 rfl ?_
      refine v_getr aX8_close_35 fX8_39 hM.p rfl rfl ?_
      refine v_bipush (by decide) aX8_close_38 ?_
      refine v_iload_n aX8_close_40 rfl ?_
      refine v_imul aX8_close_41 ?_
      refine v_iload_n aX8_close_42 rfl ?_
      refine v_iadd aX8_close_43 ?_
      refine v_zald aX8_close_44 hM.p_same (by omega) (by decide) ?_
      refine v_top (w := b2i (T a b ∨ ((a < a ∨ (a = a ∧ b < b)) ∧ T a k ∧ T k b))) (by rw [row_same]; exact hf a b (by omega) (by omega) (by omega) (by omega)) ?_
      refine v_if_ne_b 76 rfl aX8_close_45 (fun c45 => ?_) (fun c45 => ?_)
      · --
        refine v_iconst aX8_close_76 ?_
        refine v_goto 81 rfl aX8_close_77 ?_
        refine v_zast aX8_close_81 hM.p_same (by omega) (by decide) (by first | exact Or.inl rfl | exact Or.inr rfl | exact b2i_01 | omega) ?_
        refine v_iinc aX8_close_82 rfl (by decide) rfl ?_
        refine v_goto 18 rfl aX8_close_85 ?_
        refine v_mu (upd2_iup.trans (by rw [row_same, row_row])) ?_
        refine ih (b + 1) _ (by omega) (by omega) (hf.set (a := a) (b := b) (by omega) (by omega) ((b2i_t (Or.inl (eT.mp c45))).symm) (fun x y x0 x6 y0 y6 q => ?_))
        exact ⟨fun z => z.imp id (fun w => ⟨by omega, w.2⟩), fun z => z.imp id (fun w => ⟨by omega, w.2⟩)⟩
      · --
        refine v_aload_n aX8_close_48 rfl ?_
        refine v_getr aX8_close_49 fX8_39 hM.p rfl rfl ?_
        refine v_bipush (by decide) aX8_close_52 ?_
        refine v_iload_n aX8_close_54 rfl ?_
        refine v_imul aX8_close_55 ?_
        refine v_iload_n aX8_close_56 rfl ?_
        refine v_iadd aX8_close_57 ?_
        refine v_zald aX8_close_58 hM.p_same (by omega) (by decide) ?_
        refine v_top (w := b2i (T a k ∨ ((a < a ∨ (a = a ∧ k < b)) ∧ T a k ∧ T k k))) (by rw [row_same]; exact hf a k (by omega) (by omega) (by omega) (by omega)) ?_
        refine v_if_eq_b 80 rfl aX8_close_59 (fun c59 => ?_) (fun c59 => ?_)
        · --
          refine v_iconst aX8_close_80 ?_
          refine v_zast aX8_close_81 hM.p_same (by omega) (by decide) (by first | exact Or.inl rfl | exact Or.inr rfl | exact b2i_01 | omega) ?_
          refine v_iinc aX8_close_82 rfl (by decide) rfl ?_
          refine v_goto 18 rfl aX8_close_85 ?_
          refine v_mu (upd2_iup.trans (by rw [row_same, row_row])) ?_
          refine ih (b + 1) _ (by omega) (by omega) (hf.set (a := a) (b := b) (by omega) (by omega) ((b2i_f (fun z => z.elim (fun w => c45 (eT.mpr w)) (fun w => c59 (eL.mpr w.2.1)))).symm) (fun x y x0 x6 y0 y6 q => ?_))
          exact ⟨fun z => z.imp id (fun w => ⟨by omega, w.2⟩), fun z => z.imp id (fun w => ⟨by omega, w.2⟩)⟩
        · --
          refine v_aload_n aX8_close_62 rfl ?_
          refine v_getr aX8_close_63 fX8_39 hM.p rfl rfl ?_
          refine v_bipush (by decide) aX8_close_66 ?_
          refine v_iload_n aX8_close_68 rfl ?_
          refine v_imul aX8_close_69 ?_
          refine v_iload_n aX8_close_70 rfl ?_
          refine v_iadd aX8_close_71 ?_
          refine v_zald aX8_close_72 hM.p_same (by omega) (by decide) ?_
          refine v_top (w := b2i (T k b ∨ ((k < a ∨ (k = a ∧ b < b)) ∧ T k k ∧ T k b))) (by rw [row_same]; exact hf k b (by omega) (by omega) (by omega) (by omega)) ?_
          refine v_if_eq_b 80 rfl aX8_close_73 (fun c73 => ?_) (fun c73 => ?_)
          · --
            refine v_iconst aX8_close_80 ?_
            refine v_zast aX8_close_81 hM.p_same (by omega) (by decide) (by first | exact Or.inl rfl | exact Or.inr rfl | exact b2i_01 | omega) ?_
            refine v_iinc aX8_close_82 rfl (by decide) rfl ?_
            refine v_goto 18 rfl aX8_close_85 ?_
            refine v_mu (upd2_iup.trans (by rw [row_same, row_row])) ?_
            refine ih (b + 1) _ (by omega) (by omega) (hf.set (a := a) (b := b) (by omega) (by omega) ((b2i_f (fun z => z.elim (fun w => c45 (eT.mpr w)) (fun w => c73 (eR.mpr w.2.2)))).symm) (fun x y x0 x6 y0 y6 q => ?_))
            exact ⟨fun z => z.imp id (fun w => ⟨by omega, w.2⟩), fun z => z.imp id (fun w => ⟨by omega, w.2⟩)⟩
          · --
            refine v_iconst aX8_close_76 ?_
            refine v_goto 81 rfl aX8_close_77 ?_
            refine v_zast aX8_close_81 hM.p_same (by omega) (by decide) (by first | exact Or.inl rfl | exact Or.inr rfl | exact b2i_01 | omega) ?_
            refine v_iinc aX8_close_82 rfl (by decide) rfl ?_
            refine v_goto 18 rfl aX8_close_85 ?_
            refine v_mu (upd2_iup.trans (by rw [row_same, row_row])) ?_
            refine ih (b + 1) _ (by omega) (by omega) (hf.set (a := a) (b := b) (by omega) (by omega) ((b2i_t (Or.inr ⟨Or.inr ⟨rfl, by omega⟩, eL.mp c59, eR.mp c73⟩)).symm) (fun x y x0 x6 y0 y6 q => ?_))
            exact ⟨fun z => z.imp id (fun w => ⟨by omega, w.2⟩), fun z => z.imp id (fun w => ⟨by omega, w.2⟩)⟩
set_option maxHeartbeats 4000000 in
set_option maxRecDepth 100000 in
theorem la1_X8_close {μ0 : Mu} {P : Pst} {k : Int} (hM : ModS S0 m) (hk : 0 ≤ k ∧ k < 6) (hh : ∀ (f : Int → Int) (L : List Value), Mat f (fun x y => T x y ∨ (T x k ∧ T k y)) → V l G cX8_close (yX8_close, 4, (some FieldType.boolean), 0, 0, 0) P (0, 0) S0 (row μ0 (m + 9) f) 94 (.ref m :: vi k :: L) []) : ∀ (N : Nat) (a : Int) (f : Int → Int) (L : List Value), (0 ≤ a ∧ a ≤ 6) → 6 - a < N → Mat f (fun x y => T x y ∨ ((x < a ∨ (x = a ∧ y < 0)) ∧ T x k ∧ T k y)) → V l G cX8_close (yX8_close, 4, (some FieldType.boolean), 0, 0, 0) P (0, 0) S0 (row μ0 (m + 9) f) 10 (.ref m :: vi k :: vi a :: L) [] := by
  intro N
  induction N with
  | zero => intro a f L h0 h1; omega
  | succ N ih =>
    intro a f L h0 h1 hf
    refine v_take 3 rfl ?_
    show V l G cX8_close (yX8_close, 4, (some FieldType.boolean), 0, 0, 0) P (0, 0) S0 (row μ0 (m + 9) f) 10 [.ref m, vi k, vi a] []
    refine v_iload_n aX8_close_10 rfl ?_
    refine v_bipush (by decide) aX8_close_11 ?_
    refine v_icmp_ge 94 rfl aX8_close_13 (by omega) (by omega) (fun c13 => ?_) (fun c13 => ?_)
    · --
      exact hh f _ (hf.eq fun x y x0 x6 y0 y6 => ⟨fun z => z.imp id (fun w => w.2), fun z => z.imp id (fun w => ⟨by omega, w⟩)⟩)
    · --
      refine v_iconst aX8_close_16 ?_
      refine v_istore_n aX8_close_17 (by decide) rfl ?_
      refine lb1_X8_close (T := T) hM hk (by omega) (fun f2 L2 h2 => ?_) 7 0 f (by omega) (by omega) hf
      refine v_take 3 rfl ?_
      show V l G cX8_close (yX8_close, 4, (some FieldType.boolean), 0, 0, 0) P (0, 0) S0 (row μ0 (m + 9) f2) 88 [.ref m, vi k, vi a] []
      refine v_iinc aX8_close_88 rfl (by decide) rfl ?_
      refine v_goto 10 rfl aX8_close_91 ?_
      exact ih (a + 1) f2 [] (by omega) (by omega) h2
set_option maxHeartbeats 4000000 in
set_option maxRecDepth 100000 in
theorem lk1_X8_close {μ0 : Mu} {P : Pst} (hM : ModS S0 m) (hh : ∀ (f : Int → Int) (L : List Value), Mat f (wsh 6 T) → V l G cX8_close (yX8_close, 4, (some FieldType.boolean), 0, 0, 0) P (0, 0) S0 (row μ0 (m + 9) f) 100 (.ref m :: L) []) : ∀ (N : Nat) (k : Int) (f : Int → Int) (L : List Value), (0 ≤ k ∧ k ≤ 6) → 6 - k < N → Mat f (wsh k.toNat T) → V l G cX8_close (yX8_close, 4, (some FieldType.boolean), 0, 0, 0) P (0, 0) S0 (row μ0 (m + 9) f) 2 (.ref m :: vi k :: L) [] := by
  intro N
  induction N with
  | zero => intro k f L h0 h1; omega
  | succ N ih =>
    intro k f L h0 h1 hf
    have hkk : ((k.toNat : Nat) : Int) = k := by omega
    refine v_take 2 rfl ?_
    show V l G cX8_close (yX8_close, 4, (some FieldType.boolean), 0, 0, 0) P (0, 0) S0 (row μ0 (m + 9) f) 2 [.ref m, vi k] []
    refine v_iload_n aX8_close_2 rfl ?_
    refine v_bipush (by decide) aX8_close_3 ?_
    refine v_icmp_ge 100 rfl aX8_close_5 (by omega) (by omega) (fun c5 => ?_) (fun c5 => ?_)
    · --
      refine hh f _ ?_
      have e6 : k.toNat = 6 := by omega
      rw [e6] at hf
      exact hf
    · --
      refine v_iconst aX8_close_8 ?_
      refine v_istore_n aX8_close_9 (by decide) rfl ?_
      refine la1_X8_close (T := wsh k.toNat T) hM (by omega) (fun f2 L2 h2 => ?_) 7 0 f [] (by omega) (by omega) (hf.eq fun x y x0 x6 y0 y6 => ⟨Or.inl, fun z => z.elim id (fun w => absurd w.1 (by omega))⟩)
      refine v_take 2 rfl ?_
      show V l G cX8_close (yX8_close, 4, (some FieldType.boolean), 0, 0, 0) P (0, 0) S0 (row μ0 (m + 9) f2) 94 [.ref m, vi k] []
      refine v_iinc aX8_close_94 rfl (by decide) rfl ?_
      refine v_goto 2 rfl aX8_close_97 ?_
      refine ih (k + 1) f2 [] (by omega) (by omega) ?_
      rw [show (k + 1).toNat = k.toNat + 1 by omega]
      refine h2.eq fun x y _ _ _ _ => ?_
      show _ ↔ _ ∨ (_ ∧ _)
      rw [hkk]
set_option maxHeartbeats 4000000 in
set_option maxRecDepth 100000 in
theorem lb2_X8_close {μ0 : Mu} {P : Pst} {k a : Int} (hM : ModS S0 m) (hS : Mat (μ0 (m + 9)) S) (hk : 0 ≤ k ∧ k < 6) (ha : 0 ≤ a ∧ a < 6) (hh : ∀ (f : Int → Int) (L : List Value), Mat f (fun x y => T x y ∨ ((x < (a + 1) ∨ (x = (a + 1) ∧ y < 0)) ∧ S x k ∧ T k y)) → V l G cX8_close (yX8_close, 4, (some FieldType.boolean), 0, 0, 0) P (0, 0) S0 (row μ0 (m + 8) f) 188 (.ref m :: vi k :: vi a :: L) []) : ∀ (N : Nat) (b : Int) (f : Int → Int), (0 ≤ b ∧ b ≤ 6) → 6 - b < N → Mat f (fun x y => T x y ∨ ((x < a ∨ (x = a ∧ y < b)) ∧ S x k ∧ T k y)) → V l G cX8_close (yX8_close, 4, (some FieldType.boolean), 0, 0, 0) P (0, 0) S0 (row μ0 (m + 8) f) 118 [.ref m, vi k, vi a, vi b] [] := by
  intro N
  induction N with
  | zero => intro b f h0 h1; omega
  | succ N ih =>
    intro b f h0 h1 hf
    have eT : (T a b ∨ ((a < a ∨ (a = a ∧ b < b)) ∧ S a k ∧ T k b)) ↔ T a b := ⟨fun z => z.elim id (fun y => absurd y.1 (by omega)), Or.inl⟩
    have eL : (S a k) ↔ S a k := Iff.rfl
    have eR : (T k b ∨ ((k < a ∨ (k = a ∧ b < b)) ∧ S k k ∧ T k b)) ↔ T k b := ⟨fun z => z.elim id (fun y => y.2.2), Or.inl⟩
    refine v_iload_n aX8_close_118 rfl ?_
    refine v_bipush (by decide) aX8_close_119 ?_
    refine v_icmp_ge 188 rfl aX8_close_121 (by omega) (by omega) (fun c121 => ?_) (fun c121 => ?_)
    · --
      exact hh f _ (hf.eq fun x y x0 x6 y0 y6 => ⟨fun z => z.imp id (fun w => ⟨by omega, w.2⟩), fun z => z.imp id (fun w => ⟨by omega, w.2⟩)⟩)
    · --
      refine v_aload_n aX8_close_124 rfl ?_
      refine v_getr aX8_close_125 fX8_35 hM.p rfl rfl ?_
      refine v_bipush (by decide) aX8_close_128 ?_
      refine v_iload_n aX8_close_130 rfl ?_
      refine v_imul aX8_close_131 ?_
      refine v_iload_n aX8_close_132 rfl ?_
      refine v_iadd aX8_close_133 ?_
      refine v_aload_n aX8_close_134 rfl ?_
      refine v_getr aX8_close_135 fX8_35 hM.p rfl rfl ?_
      refine v_bipush (by decide) aX8_close_138 ?_
      refine v_iload_n aX8_close_140 rfl ?_
      refine v_imul aX8_close_141 ?_
      refine v_iload_n aX8_close_142 rfl ?_
      refine v_iadd aX8_close_143 ?_
      refine v_zald aX8_close_144 hM.p_over (by omega) (by decide) ?_
      refine v_top (w := b2i (T a b ∨ ((a < a ∨ (a = a ∧ b < b)) ∧ S a k ∧ T k b))) (by rw [row_same]; exact hf a b (by omega) (by omega) (by omega) (by omega)) ?_
      refine v_if_ne_b 176 rfl aX8_close_145 (fun c145 => ?_) (fun c145 => ?_)
      · --
        refine v_iconst aX8_close_176 ?_
        refine v_goto 181 rfl aX8_close_177 ?_
        refine v_zast aX8_close_181 hM.p_over (by omega) (by decide) (by first | exact Or.inl rfl | exact Or.inr rfl | exact b2i_01 | omega) ?_
        refine v_iinc aX8_close_182 rfl (by decide) rfl ?_
        refine v_goto 118 rfl aX8_close_185 ?_
        refine v_mu (upd2_iup.trans (by rw [row_same, row_row])) ?_
        refine ih (b + 1) _ (by omega) (by omega) (hf.set (a := a) (b := b) (by omega) (by omega) ((b2i_t (Or.inl (eT.mp c145))).symm) (fun x y x0 x6 y0 y6 q => ?_))
        exact ⟨fun z => z.imp id (fun w => ⟨by omega, w.2⟩), fun z => z.imp id (fun w => ⟨by omega, w.2⟩)⟩
      · --
        refine v_aload_n aX8_close_148 rfl ?_
        refine v_getr aX8_close_149 fX8_39 hM.p rfl rfl ?_
        refine v_bipush (by decide) aX8_close_152 ?_
        refine v_iload_n aX8_close_154 rfl ?_
        refine v_imul aX8_close_155 ?_
        refine v_iload_n aX8_close_156 rfl ?_
        refine v_iadd aX8_close_157 ?_
        refine v_zald aX8_close_158 hM.p_same (by omega) (by decide) ?_
        refine v_top (w := b2i (S a k)) (by rw [row_ne (by omega)]; exact hS a k (by omega) (by omega) (by omega) (by omega)) ?_
        refine v_if_eq_b 180 rfl aX8_close_159 (fun c159 => ?_) (fun c159 => ?_)
        · --
          refine v_iconst aX8_close_180 ?_
          refine v_zast aX8_close_181 hM.p_over (by omega) (by decide) (by first | exact Or.inl rfl | exact Or.inr rfl | exact b2i_01 | omega) ?_
          refine v_iinc aX8_close_182 rfl (by decide) rfl ?_
          refine v_goto 118 rfl aX8_close_185 ?_
          refine v_mu (upd2_iup.trans (by rw [row_same, row_row])) ?_
          refine ih (b + 1) _ (by omega) (by omega) (hf.set (a := a) (b := b) (by omega) (by omega) ((b2i_f (fun z => z.elim (fun w => c145 (eT.mpr w)) (fun w => c159 (eL.mpr w.2.1)))).symm) (fun x y x0 x6 y0 y6 q => ?_))
          exact ⟨fun z => z.imp id (fun w => ⟨by omega, w.2⟩), fun z => z.imp id (fun w => ⟨by omega, w.2⟩)⟩
        · --
          refine v_aload_n aX8_close_162 rfl ?_
          refine v_getr aX8_close_163 fX8_35 hM.p rfl rfl ?_
          refine v_bipush (by decide) aX8_close_166 ?_
          refine v_iload_n aX8_close_168 rfl ?_
          refine v_imul aX8_close_169 ?_
          refine v_iload_n aX8_close_170 rfl ?_
          refine v_iadd aX8_close_171 ?_
          refine v_zald aX8_close_172 hM.p_over (by omega) (by decide) ?_
          refine v_top (w := b2i (T k b ∨ ((k < a ∨ (k = a ∧ b < b)) ∧ S k k ∧ T k b))) (by rw [row_same]; exact hf k b (by omega) (by omega) (by omega) (by omega)) ?_
          refine v_if_eq_b 180 rfl aX8_close_173 (fun c173 => ?_) (fun c173 => ?_)
          · --
            refine v_iconst aX8_close_180 ?_
            refine v_zast aX8_close_181 hM.p_over (by omega) (by decide) (by first | exact Or.inl rfl | exact Or.inr rfl | exact b2i_01 | omega) ?_
            refine v_iinc aX8_close_182 rfl (by decide) rfl ?_
            refine v_goto 118 rfl aX8_close_185 ?_
            refine v_mu (upd2_iup.trans (by rw [row_same, row_row])) ?_
            refine ih (b + 1) _ (by omega) (by omega) (hf.set (a := a) (b := b) (by omega) (by omega) ((b2i_f (fun z => z.elim (fun w => c145 (eT.mpr w)) (fun w => c173 (eR.mpr w.2.2)))).symm) (fun x y x0 x6 y0 y6 q => ?_))
            exact ⟨fun z => z.imp id (fun w => ⟨by omega, w.2⟩), fun z => z.imp id (fun w => ⟨by omega, w.2⟩)⟩
          · --
            refine v_iconst aX8_close_176 ?_
            refine v_goto 181 rfl aX8_close_177 ?_
            refine v_zast aX8_close_181 hM.p_over (by omega) (by decide) (by first | exact Or.inl rfl | exact Or.inr rfl | exact b2i_01 | omega) ?_
            refine v_iinc aX8_close_182 rfl (by decide) rfl ?_
            refine v_goto 118 rfl aX8_close_185 ?_
            refine v_mu (upd2_iup.trans (by rw [row_same, row_row])) ?_
            refine ih (b + 1) _ (by omega) (by omega) (hf.set (a := a) (b := b) (by omega) (by omega) ((b2i_t (Or.inr ⟨Or.inr ⟨rfl, by omega⟩, eL.mp c159, eR.mp c173⟩)).symm) (fun x y x0 x6 y0 y6 q => ?_))
            exact ⟨fun z => z.imp id (fun w => ⟨by omega, w.2⟩), fun z => z.imp id (fun w => ⟨by omega, w.2⟩)⟩
set_option maxHeartbeats 4000000 in
set_option maxRecDepth 100000 in
theorem la2_X8_close {μ0 : Mu} {P : Pst} {k : Int} (hM : ModS S0 m) (hS : Mat (μ0 (m + 9)) S) (hk : 0 ≤ k ∧ k < 6) (hh : ∀ (f : Int → Int) (L : List Value), Mat f (fun x y => T x y ∨ (S x k ∧ T k y)) → V l G cX8_close (yX8_close, 4, (some FieldType.boolean), 0, 0, 0) P (0, 0) S0 (row μ0 (m + 8) f) 194 (.ref m :: vi k :: L) []) : ∀ (N : Nat) (a : Int) (f : Int → Int) (L : List Value), (0 ≤ a ∧ a ≤ 6) → 6 - a < N → Mat f (fun x y => T x y ∨ ((x < a ∨ (x = a ∧ y < 0)) ∧ S x k ∧ T k y)) → V l G cX8_close (yX8_close, 4, (some FieldType.boolean), 0, 0, 0) P (0, 0) S0 (row μ0 (m + 8) f) 110 (.ref m :: vi k :: vi a :: L) [] := by
  intro N
  induction N with
  | zero => intro a f L h0 h1; omega
  | succ N ih =>
    intro a f L h0 h1 hf
    refine v_take 3 rfl ?_
    show V l G cX8_close (yX8_close, 4, (some FieldType.boolean), 0, 0, 0) P (0, 0) S0 (row μ0 (m + 8) f) 110 [.ref m, vi k, vi a] []
    refine v_iload_n aX8_close_110 rfl ?_
    refine v_bipush (by decide) aX8_close_111 ?_
    refine v_icmp_ge 194 rfl aX8_close_113 (by omega) (by omega) (fun c113 => ?_) (fun c113 => ?_)
    · --
      exact hh f _ (hf.eq fun x y x0 x6 y0 y6 => ⟨fun z => z.imp id (fun w => w.2), fun z => z.imp id (fun w => ⟨by omega, w⟩)⟩)
    · --
      refine v_iconst aX8_close_116 ?_
      refine v_istore_n aX8_close_117 (by decide) rfl ?_
      refine lb2_X8_close (T := T) (S := S) hM hS hk (by omega) (fun f2 L2 h2 => ?_) 7 0 f (by omega) (by omega) hf
      refine v_take 3 rfl ?_
      show V l G cX8_close (yX8_close, 4, (some FieldType.boolean), 0, 0, 0) P (0, 0) S0 (row μ0 (m + 8) f2) 188 [.ref m, vi k, vi a] []
      refine v_iinc aX8_close_188 rfl (by decide) rfl ?_
      refine v_goto 110 rfl aX8_close_191 ?_
      exact ih (a + 1) f2 [] (by omega) (by omega) h2
set_option maxHeartbeats 4000000 in
set_option maxRecDepth 100000 in
theorem lk2_X8_close {μ0 : Mu} {P : Pst} (hM : ModS S0 m) (hS : Mat (μ0 (m + 9)) S) (hh : ∀ (f : Int → Int) (L : List Value), Mat f (it2 S 6 T) → V l G cX8_close (yX8_close, 4, (some FieldType.boolean), 0, 0, 0) P (0, 0) S0 (row μ0 (m + 8) f) 200 (.ref m :: L) []) : ∀ (N : Nat) (k : Int) (f : Int → Int) (L : List Value), (0 ≤ k ∧ k ≤ 6) → 6 - k < N → Mat f (it2 S k.toNat T) → V l G cX8_close (yX8_close, 4, (some FieldType.boolean), 0, 0, 0) P (0, 0) S0 (row μ0 (m + 8) f) 102 (.ref m :: vi k :: L) [] := by
  intro N
  induction N with
  | zero => intro k f L h0 h1; omega
  | succ N ih =>
    intro k f L h0 h1 hf
    have hkk : ((k.toNat : Nat) : Int) = k := by omega
    refine v_take 2 rfl ?_
    show V l G cX8_close (yX8_close, 4, (some FieldType.boolean), 0, 0, 0) P (0, 0) S0 (row μ0 (m + 8) f) 102 [.ref m, vi k] []
    refine v_iload_n aX8_close_102 rfl ?_
    refine v_bipush (by decide) aX8_close_103 ?_
    refine v_icmp_ge 200 rfl aX8_close_105 (by omega) (by omega) (fun c105 => ?_) (fun c105 => ?_)
    · --
      refine hh f _ ?_
      have e6 : k.toNat = 6 := by omega
      rw [e6] at hf
      exact hf
    · --
      refine v_iconst aX8_close_108 ?_
      refine v_istore_n aX8_close_109 (by decide) rfl ?_
      refine la2_X8_close (T := it2 S k.toNat T) (S := S) hM hS (by omega) (fun f2 L2 h2 => ?_) 7 0 f [] (by omega) (by omega) (hf.eq fun x y x0 x6 y0 y6 => ⟨Or.inl, fun z => z.elim id (fun w => absurd w.1 (by omega))⟩)
      refine v_take 2 rfl ?_
      show V l G cX8_close (yX8_close, 4, (some FieldType.boolean), 0, 0, 0) P (0, 0) S0 (row μ0 (m + 8) f2) 194 [.ref m, vi k] []
      refine v_iinc aX8_close_194 rfl (by decide) rfl ?_
      refine v_goto 102 rfl aX8_close_197 ?_
      refine ih (k + 1) f2 [] (by omega) (by omega) ?_
      rw [show (k + 1).toNat = k.toNat + 1 by omega]
      refine h2.eq fun x y _ _ _ _ => ?_
      show _ ↔ _ ∨ (_ ∧ _)
      rw [hkk]
set_option maxHeartbeats 4000000 in
set_option maxRecDepth 100000 in
theorem lb3_X8_close {μ0 : Mu} {P : Pst} {k a : Int} (hM : ModS S0 m) (hS : Mat (μ0 (m + 9)) S) (hk : 0 ≤ k ∧ k < 6) (ha : 0 ≤ a ∧ a < 6) (hh : ∀ (f : Int → Int) (L : List Value), Mat f (fun x y => T x y ∨ ((x < (a + 1) ∨ (x = (a + 1) ∧ y < 0)) ∧ T x k ∧ S k y)) → V l G cX8_close (yX8_close, 4, (some FieldType.boolean), 0, 0, 0) P (0, 0) S0 (row μ0 (m + 8) f) 288 (.ref m :: vi k :: vi a :: L) []) : ∀ (N : Nat) (b : Int) (f : Int → Int), (0 ≤ b ∧ b ≤ 6) → 6 - b < N → Mat f (fun x y => T x y ∨ ((x < a ∨ (x = a ∧ y < b)) ∧ T x k ∧ S k y)) → V l G cX8_close (yX8_close, 4, (some FieldType.boolean), 0, 0, 0) P (0, 0) S0 (row μ0 (m + 8) f) 218 [.ref m, vi k, vi a, vi b] [] := by
  intro N
  induction N with
  | zero => intro b f h0 h1; omega
  | succ N ih =>
    intro b f h0 h1 hf
    have eT : (T a b ∨ ((a < a ∨ (a = a ∧ b < b)) ∧ T a k ∧ S k b)) ↔ T a b := ⟨fun z => z.elim id (fun y => absurd y.1 (by omega)), Or.inl⟩
    have eL : (T a k ∨ ((a < a ∨ (a = a ∧ k < b)) ∧ T a k ∧ S k k)) ↔ T a k := ⟨fun z => z.elim id (fun y => y.2.1), Or.inl⟩
    have eR : (S k b) ↔ S k b := Iff.rfl
    refine v_iload_n aX8_close_218 rfl ?_
    refine v_bipush (by decide) aX8_close_219 ?_
    refine v_icmp_ge 288 rfl aX8_close_221 (by omega) (by omega) (fun c221 => ?_) (fun c221 => ?_)
    · --
      exact hh f _ (hf.eq fun x y x0 x6 y0 y6 => ⟨fun z => z.imp id (fun w => ⟨by omega, w.2⟩), fun z => z.imp id (fun w => ⟨by omega, w.2⟩)⟩)
    · --
      refine v_aload_n aX8_close_224 rfl ?_
      refine v_getr aX8_close_225 fX8_35 hM.p rfl rfl ?_
      refine v_bipush (by decide) aX8_close_228 ?_
      refine v_iload_n aX8_close_230 rfl ?_
      refine v_imul aX8_close_231 ?_
      refine v_iload_n aX8_close_232 rfl ?_
      refine v_iadd aX8_close_233 ?_
      refine v_aload_n aX8_close_234 rfl ?_
      refine v_getr aX8_close_235 fX8_35 hM.p rfl rfl ?_
      refine v_bipush (by decide) aX8_close_238 ?_
      refine v_iload_n aX8_close_240 rfl ?_
      refine v_imul aX8_close_241 ?_
      refine v_iload_n aX8_close_242 rfl ?_
      refine v_iadd aX8_close_243 ?_
      refine v_zald aX8_close_244 hM.p_over (by omega) (by decide) ?_
      refine v_top (w := b2i (T a b ∨ ((a < a ∨ (a = a ∧ b < b)) ∧ T a k ∧ S k b))) (by rw [row_same]; exact hf a b (by omega) (by omega) (by omega) (by omega)) ?_
      refine v_if_ne_b 276 rfl aX8_close_245 (fun c245 => ?_) (fun c245 => ?_)
      · --
        refine v_iconst aX8_close_276 ?_
        refine v_goto 281 rfl aX8_close_277 ?_
        refine v_zast aX8_close_281 hM.p_over (by omega) (by decide) (by first | exact Or.inl rfl | exact Or.inr rfl | exact b2i_01 | omega) ?_
        refine v_iinc aX8_close_282 rfl (by decide) rfl ?_
        refine v_goto 218 rfl aX8_close_285 ?_
        refine v_mu (upd2_iup.trans (by rw [row_same, row_row])) ?_
        refine ih (b + 1) _ (by omega) (by omega) (hf.set (a := a) (b := b) (by omega) (by omega) ((b2i_t (Or.inl (eT.mp c245))).symm) (fun x y x0 x6 y0 y6 q => ?_))
        exact ⟨fun z => z.imp id (fun w => ⟨by omega, w.2⟩), fun z => z.imp id (fun w => ⟨by omega, w.2⟩)⟩
      · --
        refine v_aload_n aX8_close_248 rfl ?_
        refine v_getr aX8_close_249 fX8_35 hM.p rfl rfl ?_
        refine v_bipush (by decide) aX8_close_252 ?_
        refine v_iload_n aX8_close_254 rfl ?_
        refine v_imul aX8_close_255 ?_
        refine v_iload_n aX8_close_256 rfl ?_
        refine v_iadd aX8_close_257 ?_
        refine v_zald aX8_close_258 hM.p_over (by omega) (by decide) ?_
        refine v_top (w := b2i (T a k ∨ ((a < a ∨ (a = a ∧ k < b)) ∧ T a k ∧ S k k))) (by rw [row_same]; exact hf a k (by omega) (by omega) (by omega) (by omega)) ?_
        refine v_if_eq_b 280 rfl aX8_close_259 (fun c259 => ?_) (fun c259 => ?_)
        · --
          refine v_iconst aX8_close_280 ?_
          refine v_zast aX8_close_281 hM.p_over (by omega) (by decide) (by first | exact Or.inl rfl | exact Or.inr rfl | exact b2i_01 | omega) ?_
          refine v_iinc aX8_close_282 rfl (by decide) rfl ?_
          refine v_goto 218 rfl aX8_close_285 ?_
          refine v_mu (upd2_iup.trans (by rw [row_same, row_row])) ?_
          refine ih (b + 1) _ (by omega) (by omega) (hf.set (a := a) (b := b) (by omega) (by omega) ((b2i_f (fun z => z.elim (fun w => c245 (eT.mpr w)) (fun w => c259 (eL.mpr w.2.1)))).symm) (fun x y x0 x6 y0 y6 q => ?_))
          exact ⟨fun z => z.imp id (fun w => ⟨by omega, w.2⟩), fun z => z.imp id (fun w => ⟨by omega, w.2⟩)⟩
        · --
          refine v_aload_n aX8_close_262 rfl ?_
          refine v_getr aX8_close_263 fX8_39 hM.p rfl rfl ?_
          refine v_bipush (by decide) aX8_close_266 ?_
          refine v_iload_n aX8_close_268 rfl ?_
          refine v_imul aX8_close_269 ?_
          refine v_iload_n aX8_close_270 rfl ?_
          refine v_iadd aX8_close_271 ?_
          refine v_zald aX8_close_272 hM.p_same (by omega) (by decide) ?_
          refine v_top (w := b2i (S k b)) (by rw [row_ne (by omega)]; exact hS k b (by omega) (by omega) (by omega) (by omega)) ?_
          refine v_if_eq_b 280 rfl aX8_close_273 (fun c273 => ?_) (fun c273 => ?_)
          · --
            refine v_iconst aX8_close_280 ?_
            refine v_zast aX8_close_281 hM.p_over (by omega) (by decide) (by first | exact Or.inl rfl | exact Or.inr rfl | exact b2i_01 | omega) ?_
            refine v_iinc aX8_close_282 rfl (by decide) rfl ?_
            refine v_goto 218 rfl aX8_close_285 ?_
            refine v_mu (upd2_iup.trans (by rw [row_same, row_row])) ?_
            refine ih (b + 1) _ (by omega) (by omega) (hf.set (a := a) (b := b) (by omega) (by omega) ((b2i_f (fun z => z.elim (fun w => c245 (eT.mpr w)) (fun w => c273 (eR.mpr w.2.2)))).symm) (fun x y x0 x6 y0 y6 q => ?_))
            exact ⟨fun z => z.imp id (fun w => ⟨by omega, w.2⟩), fun z => z.imp id (fun w => ⟨by omega, w.2⟩)⟩
          · --
            refine v_iconst aX8_close_276 ?_
            refine v_goto 281 rfl aX8_close_277 ?_
            refine v_zast aX8_close_281 hM.p_over (by omega) (by decide) (by first | exact Or.inl rfl | exact Or.inr rfl | exact b2i_01 | omega) ?_
            refine v_iinc aX8_close_282 rfl (by decide) rfl ?_
            refine v_goto 218 rfl aX8_close_285 ?_
            refine v_mu (upd2_iup.trans (by rw [row_same, row_row])) ?_
            refine ih (b + 1) _ (by omega) (by omega) (hf.set (a := a) (b := b) (by omega) (by omega) ((b2i_t (Or.inr ⟨Or.inr ⟨rfl, by omega⟩, eL.mp c259, eR.mp c273⟩)).symm) (fun x y x0 x6 y0 y6 q => ?_))
            exact ⟨fun z => z.imp id (fun w => ⟨by omega, w.2⟩), fun z => z.imp id (fun w => ⟨by omega, w.2⟩)⟩
set_option maxHeartbeats 4000000 in
set_option maxRecDepth 100000 in
theorem la3_X8_close {μ0 : Mu} {P : Pst} {k : Int} (hM : ModS S0 m) (hS : Mat (μ0 (m + 9)) S) (hk : 0 ≤ k ∧ k < 6) (hh : ∀ (f : Int → Int) (L : List Value), Mat f (fun x y => T x y ∨ (T x k ∧ S k y)) → V l G cX8_close (yX8_close, 4, (some FieldType.boolean), 0, 0, 0) P (0, 0) S0 (row μ0 (m + 8) f) 294 (.ref m :: vi k :: L) []) : ∀ (N : Nat) (a : Int) (f : Int → Int) (L : List Value), (0 ≤ a ∧ a ≤ 6) → 6 - a < N → Mat f (fun x y => T x y ∨ ((x < a ∨ (x = a ∧ y < 0)) ∧ T x k ∧ S k y)) → V l G cX8_close (yX8_close, 4, (some FieldType.boolean), 0, 0, 0) P (0, 0) S0 (row μ0 (m + 8) f) 210 (.ref m :: vi k :: vi a :: L) [] := by
  intro N
  induction N with
  | zero => intro a f L h0 h1; omega
  | succ N ih =>
    intro a f L h0 h1 hf
    refine v_take 3 rfl ?_
    show V l G cX8_close (yX8_close, 4, (some FieldType.boolean), 0, 0, 0) P (0, 0) S0 (row μ0 (m + 8) f) 210 [.ref m, vi k, vi a] []
    refine v_iload_n aX8_close_210 rfl ?_
    refine v_bipush (by decide) aX8_close_211 ?_
    refine v_icmp_ge 294 rfl aX8_close_213 (by omega) (by omega) (fun c213 => ?_) (fun c213 => ?_)
    · --
      exact hh f _ (hf.eq fun x y x0 x6 y0 y6 => ⟨fun z => z.imp id (fun w => w.2), fun z => z.imp id (fun w => ⟨by omega, w⟩)⟩)
    · --
      refine v_iconst aX8_close_216 ?_
      refine v_istore_n aX8_close_217 (by decide) rfl ?_
      refine lb3_X8_close (T := T) (S := S) hM hS hk (by omega) (fun f2 L2 h2 => ?_) 7 0 f (by omega) (by omega) hf
      refine v_take 3 rfl ?_
      show V l G cX8_close (yX8_close, 4, (some FieldType.boolean), 0, 0, 0) P (0, 0) S0 (row μ0 (m + 8) f2) 288 [.ref m, vi k, vi a] []
      refine v_iinc aX8_close_288 rfl (by decide) rfl ?_
      refine v_goto 210 rfl aX8_close_291 ?_
      exact ih (a + 1) f2 [] (by omega) (by omega) h2
set_option maxHeartbeats 4000000 in
set_option maxRecDepth 100000 in
theorem lk3_X8_close {μ0 : Mu} {P : Pst} (hM : ModS S0 m) (hS : Mat (μ0 (m + 9)) S) (hh : ∀ (f : Int → Int) (L : List Value), Mat f (it3 S 6 T) → V l G cX8_close (yX8_close, 4, (some FieldType.boolean), 0, 0, 0) P (0, 0) S0 (row μ0 (m + 8) f) 300 (.ref m :: L) []) : ∀ (N : Nat) (k : Int) (f : Int → Int) (L : List Value), (0 ≤ k ∧ k ≤ 6) → 6 - k < N → Mat f (it3 S k.toNat T) → V l G cX8_close (yX8_close, 4, (some FieldType.boolean), 0, 0, 0) P (0, 0) S0 (row μ0 (m + 8) f) 202 (.ref m :: vi k :: L) [] := by
  intro N
  induction N with
  | zero => intro k f L h0 h1; omega
  | succ N ih =>
    intro k f L h0 h1 hf
    have hkk : ((k.toNat : Nat) : Int) = k := by omega
    refine v_take 2 rfl ?_
    show V l G cX8_close (yX8_close, 4, (some FieldType.boolean), 0, 0, 0) P (0, 0) S0 (row μ0 (m + 8) f) 202 [.ref m, vi k] []
    refine v_iload_n aX8_close_202 rfl ?_
    refine v_bipush (by decide) aX8_close_203 ?_
    refine v_icmp_ge 300 rfl aX8_close_205 (by omega) (by omega) (fun c205 => ?_) (fun c205 => ?_)
    · --
      refine hh f _ ?_
      have e6 : k.toNat = 6 := by omega
      rw [e6] at hf
      exact hf
    · --
      refine v_iconst aX8_close_208 ?_
      refine v_istore_n aX8_close_209 (by decide) rfl ?_
      refine la3_X8_close (T := it3 S k.toNat T) (S := S) hM hS (by omega) (fun f2 L2 h2 => ?_) 7 0 f [] (by omega) (by omega) (hf.eq fun x y x0 x6 y0 y6 => ⟨Or.inl, fun z => z.elim id (fun w => absurd w.1 (by omega))⟩)
      refine v_take 2 rfl ?_
      show V l G cX8_close (yX8_close, 4, (some FieldType.boolean), 0, 0, 0) P (0, 0) S0 (row μ0 (m + 8) f2) 294 [.ref m, vi k] []
      refine v_iinc aX8_close_294 rfl (by decide) rfl ?_
      refine v_goto 202 rfl aX8_close_297 ?_
      refine ih (k + 1) f2 [] (by omega) (by omega) ?_
      rw [show (k + 1).toNat = k.toNat + 1 by omega]
      refine h2.eq fun x y _ _ _ _ => ?_
      show _ ↔ _ ∨ (_ ∧ _)
      rw [hkk]
set_option maxHeartbeats 4000000 in
set_option maxRecDepth 100000 in
theorem lb4_X8_close {μ0 : Mu} {P : Pst} {k a : Int} (hM : ModS S0 m) (hk : 0 ≤ k ∧ k < 6) (ha : 0 ≤ a ∧ a < 6) (hh : ∀ (f : Int → Int) (L : List Value), Mat f (fun x y => T x y ∨ ((x < (a + 1) ∨ (x = (a + 1) ∧ y < 0)) ∧ T x k ∧ T k y)) → V l G cX8_close (yX8_close, 4, (some FieldType.boolean), 0, 0, 0) P (0, 0) S0 (row μ0 (m + 8) f) 388 (.ref m :: vi k :: vi a :: L) []) : ∀ (N : Nat) (b : Int) (f : Int → Int), (0 ≤ b ∧ b ≤ 6) → 6 - b < N → Mat f (fun x y => T x y ∨ ((x < a ∨ (x = a ∧ y < b)) ∧ T x k ∧ T k y)) → V l G cX8_close (yX8_close, 4, (some FieldType.boolean), 0, 0, 0) P (0, 0) S0 (row μ0 (m + 8) f) 318 [.ref m, vi k, vi a, vi b] [] := by
  intro N
  induction N with
  | zero => intro b f h0 h1; omega
  | succ N ih =>
    intro b f h0 h1 hf
    have eT : (T a b ∨ ((a < a ∨ (a = a ∧ b < b)) ∧ T a k ∧ T k b)) ↔ T a b := ⟨fun z => z.elim id (fun y => absurd y.1 (by omega)), Or.inl⟩
    have eL : (T a k ∨ ((a < a ∨ (a = a ∧ k < b)) ∧ T a k ∧ T k k)) ↔ T a k := ⟨fun z => z.elim id (fun y => y.2.1), Or.inl⟩
    have eR : (T k b ∨ ((k < a ∨ (k = a ∧ b < b)) ∧ T k k ∧ T k b)) ↔ T k b := ⟨fun z => z.elim id (fun y => y.2.2), Or.inl⟩
    refine v_iload_n aX8_close_318 rfl ?_
    refine v_bipush (by decide) aX8_close_319 ?_
    refine v_icmp_ge 388 rfl aX8_close_321 (by omega) (by omega) (fun c321 => ?_) (fun c321 => ?_)
    · --
      exact hh f _ (hf.eq fun x y x0 x6 y0 y6 => ⟨fun z => z.imp id (fun w => ⟨by omega, w.2⟩), fun z => z.imp id (fun w => ⟨by omega, w.2⟩)⟩)
    · --
      refine v_aload_n aX8_close_324 rfl ?_
      refine v_getr aX8_close_325 fX8_35 hM.p rfl rfl ?_
      refine v_bipush (by decide) aX8_close_328 ?_
      refine v_iload_n aX8_close_330 rfl ?_
      refine v_imul aX8_close_331 ?_
      refine v_iload_n aX8_close_332 rfl ?_
      refine v_iadd aX8_close_333 ?_
      refine v_aload_n aX8_close_334 rfl ?_
      refine v_getr aX8_close_335 fX8_35 hM.p rfl rfl ?_
      refine v_bipush (by decide) aX8_close_338 ?_
      refine v_iload_n aX8_close_340 rfl ?_
      refine v_imul aX8_close_341 ?_
      refine v_iload_n aX8_close_342 rfl ?_
      refine v_iadd aX8_close_343 ?_
      refine v_zald aX8_close_344 hM.p_over (by omega) (by decide) ?_
      refine v_top (w := b2i (T a b ∨ ((a < a ∨ (a = a ∧ b < b)) ∧ T a k ∧ T k b))) (by rw [row_same]; exact hf a b (by omega) (by omega) (by omega) (by omega)) ?_
      refine v_if_ne_b 376 rfl aX8_close_345 (fun c345 => ?_) (fun c345 => ?_)
      · --
        refine v_iconst aX8_close_376 ?_
        refine v_goto 381 rfl aX8_close_377 ?_
        refine v_zast aX8_close_381 hM.p_over (by omega) (by decide) (by first | exact Or.inl rfl | exact Or.inr rfl | exact b2i_01 | omega) ?_
        refine v_iinc aX8_close_382 rfl (by decide) rfl ?_
        refine v_goto 318 rfl aX8_close_385 ?_
        refine v_mu (upd2_iup.trans (by rw [row_same, row_row])) ?_
        refine ih (b + 1) _ (by omega) (by omega) (hf.set (a := a) (b := b) (by omega) (by omega) ((b2i_t (Or.inl (eT.mp c345))).symm) (fun x y x0 x6 y0 y6 q => ?_))
        exact ⟨fun z => z.imp id (fun w => ⟨by omega, w.2⟩), fun z => z.imp id (fun w => ⟨by omega, w.2⟩)⟩
      · --
        refine v_aload_n aX8_close_348 rfl ?_
        refine v_getr aX8_close_349 fX8_35 hM.p rfl rfl ?_
        refine v_bipush (by decide) aX8_close_352 ?_
        refine v_iload_n aX8_close_354 rfl ?_
        refine v_imul aX8_close_355 ?_
        refine v_iload_n aX8_close_356 rfl ?_
        refine v_iadd aX8_close_357 ?_
        refine v_zald aX8_close_358 hM.p_over (by omega) (by decide) ?_
        refine v_top (w := b2i (T a k ∨ ((a < a ∨ (a = a ∧ k < b)) ∧ T a k ∧ T k k))) (by rw [row_same]; exact hf a k (by omega) (by omega) (by omega) (by omega)) ?_
        refine v_if_eq_b 380 rfl aX8_close_359 (fun c359 => ?_) (fun c359 => ?_)
        · --
          refine v_iconst aX8_close_380 ?_
          refine v_zast aX8_close_381 hM.p_over (by omega) (by decide) (by first | exact Or.inl rfl | exact Or.inr rfl | exact b2i_01 | omega) ?_
          refine v_iinc aX8_close_382 rfl (by decide) rfl ?_
          refine v_goto 318 rfl aX8_close_385 ?_
          refine v_mu (upd2_iup.trans (by rw [row_same, row_row])) ?_
          refine ih (b + 1) _ (by omega) (by omega) (hf.set (a := a) (b := b) (by omega) (by omega) ((b2i_f (fun z => z.elim (fun w => c345 (eT.mpr w)) (fun w => c359 (eL.mpr w.2.1)))).symm) (fun x y x0 x6 y0 y6 q => ?_))
          exact ⟨fun z => z.imp id (fun w => ⟨by omega, w.2⟩), fun z => z.imp id (fun w => ⟨by omega, w.2⟩)⟩
        · --
          refine v_aload_n aX8_close_362 rfl ?_
          refine v_getr aX8_close_363 fX8_35 hM.p rfl rfl ?_
          refine v_bipush (by decide) aX8_close_366 ?_
          refine v_iload_n aX8_close_368 rfl ?_
          refine v_imul aX8_close_369 ?_
          refine v_iload_n aX8_close_370 rfl ?_
          refine v_iadd aX8_close_371 ?_
          refine v_zald aX8_close_372 hM.p_over (by omega) (by decide) ?_
          refine v_top (w := b2i (T k b ∨ ((k < a ∨ (k = a ∧ b < b)) ∧ T k k ∧ T k b))) (by rw [row_same]; exact hf k b (by omega) (by omega) (by omega) (by omega)) ?_
          refine v_if_eq_b 380 rfl aX8_close_373 (fun c373 => ?_) (fun c373 => ?_)
          · --
            refine v_iconst aX8_close_380 ?_
            refine v_zast aX8_close_381 hM.p_over (by omega) (by decide) (by first | exact Or.inl rfl | exact Or.inr rfl | exact b2i_01 | omega) ?_
            refine v_iinc aX8_close_382 rfl (by decide) rfl ?_
            refine v_goto 318 rfl aX8_close_385 ?_
            refine v_mu (upd2_iup.trans (by rw [row_same, row_row])) ?_
            refine ih (b + 1) _ (by omega) (by omega) (hf.set (a := a) (b := b) (by omega) (by omega) ((b2i_f (fun z => z.elim (fun w => c345 (eT.mpr w)) (fun w => c373 (eR.mpr w.2.2)))).symm) (fun x y x0 x6 y0 y6 q => ?_))
            exact ⟨fun z => z.imp id (fun w => ⟨by omega, w.2⟩), fun z => z.imp id (fun w => ⟨by omega, w.2⟩)⟩
          · --
            refine v_iconst aX8_close_376 ?_
            refine v_goto 381 rfl aX8_close_377 ?_
            refine v_zast aX8_close_381 hM.p_over (by omega) (by decide) (by first | exact Or.inl rfl | exact Or.inr rfl | exact b2i_01 | omega) ?_
            refine v_iinc aX8_close_382 rfl (by decide) rfl ?_
            refine v_goto 318 rfl aX8_close_385 ?_
            refine v_mu (upd2_iup.trans (by rw [row_same, row_row])) ?_
            refine ih (b + 1) _ (by omega) (by omega) (hf.set (a := a) (b := b) (by omega) (by omega) ((b2i_t (Or.inr ⟨Or.inr ⟨rfl, by omega⟩, eL.mp c359, eR.mp c373⟩)).symm) (fun x y x0 x6 y0 y6 q => ?_))
            exact ⟨fun z => z.imp id (fun w => ⟨by omega, w.2⟩), fun z => z.imp id (fun w => ⟨by omega, w.2⟩)⟩
set_option maxHeartbeats 4000000 in
set_option maxRecDepth 100000 in
theorem la4_X8_close {μ0 : Mu} {P : Pst} {k : Int} (hM : ModS S0 m) (hk : 0 ≤ k ∧ k < 6) (hh : ∀ (f : Int → Int) (L : List Value), Mat f (fun x y => T x y ∨ (T x k ∧ T k y)) → V l G cX8_close (yX8_close, 4, (some FieldType.boolean), 0, 0, 0) P (0, 0) S0 (row μ0 (m + 8) f) 394 (.ref m :: vi k :: L) []) : ∀ (N : Nat) (a : Int) (f : Int → Int) (L : List Value), (0 ≤ a ∧ a ≤ 6) → 6 - a < N → Mat f (fun x y => T x y ∨ ((x < a ∨ (x = a ∧ y < 0)) ∧ T x k ∧ T k y)) → V l G cX8_close (yX8_close, 4, (some FieldType.boolean), 0, 0, 0) P (0, 0) S0 (row μ0 (m + 8) f) 310 (.ref m :: vi k :: vi a :: L) [] := by
  intro N
  induction N with
  | zero => intro a f L h0 h1; omega
  | succ N ih =>
    intro a f L h0 h1 hf
    refine v_take 3 rfl ?_
    show V l G cX8_close (yX8_close, 4, (some FieldType.boolean), 0, 0, 0) P (0, 0) S0 (row μ0 (m + 8) f) 310 [.ref m, vi k, vi a] []
    refine v_iload_n aX8_close_310 rfl ?_
    refine v_bipush (by decide) aX8_close_311 ?_
    refine v_icmp_ge 394 rfl aX8_close_313 (by omega) (by omega) (fun c313 => ?_) (fun c313 => ?_)
    · --
      exact hh f _ (hf.eq fun x y x0 x6 y0 y6 => ⟨fun z => z.imp id (fun w => w.2), fun z => z.imp id (fun w => ⟨by omega, w⟩)⟩)
    · --
      refine v_iconst aX8_close_316 ?_
      refine v_istore_n aX8_close_317 (by decide) rfl ?_
      refine lb4_X8_close (T := T) hM hk (by omega) (fun f2 L2 h2 => ?_) 7 0 f (by omega) (by omega) hf
      refine v_take 3 rfl ?_
      show V l G cX8_close (yX8_close, 4, (some FieldType.boolean), 0, 0, 0) P (0, 0) S0 (row μ0 (m + 8) f2) 388 [.ref m, vi k, vi a] []
      refine v_iinc aX8_close_388 rfl (by decide) rfl ?_
      refine v_goto 310 rfl aX8_close_391 ?_
      exact ih (a + 1) f2 [] (by omega) (by omega) h2
set_option maxHeartbeats 4000000 in
set_option maxRecDepth 100000 in
theorem lk4_X8_close {μ0 : Mu} {P : Pst} (hM : ModS S0 m) (hh : ∀ (f : Int → Int) (L : List Value), Mat f (wsh 6 T) → V l G cX8_close (yX8_close, 4, (some FieldType.boolean), 0, 0, 0) P (0, 0) S0 (row μ0 (m + 8) f) 400 (.ref m :: L) []) : ∀ (N : Nat) (k : Int) (f : Int → Int) (L : List Value), (0 ≤ k ∧ k ≤ 6) → 6 - k < N → Mat f (wsh k.toNat T) → V l G cX8_close (yX8_close, 4, (some FieldType.boolean), 0, 0, 0) P (0, 0) S0 (row μ0 (m + 8) f) 302 (.ref m :: vi k :: L) [] := by
  intro N
  induction N with
  | zero => intro k f L h0 h1; omega
  | succ N ih =>
    intro k f L h0 h1 hf
    have hkk : ((k.toNat : Nat) : Int) = k := by omega
    refine v_take 2 rfl ?_
    show V l G cX8_close (yX8_close, 4, (some FieldType.boolean), 0, 0, 0) P (0, 0) S0 (row μ0 (m + 8) f) 302 [.ref m, vi k] []
    refine v_iload_n aX8_close_302 rfl ?_
    refine v_bipush (by decide) aX8_close_303 ?_
    refine v_icmp_ge 400 rfl aX8_close_305 (by omega) (by omega) (fun c305 => ?_) (fun c305 => ?_)
    · --
      refine hh f _ ?_
      have e6 : k.toNat = 6 := by omega
      rw [e6] at hf
      exact hf
    · --
      refine v_iconst aX8_close_308 ?_
      refine v_istore_n aX8_close_309 (by decide) rfl ?_
      refine la4_X8_close (T := wsh k.toNat T) hM (by omega) (fun f2 L2 h2 => ?_) 7 0 f [] (by omega) (by omega) (hf.eq fun x y x0 x6 y0 y6 => ⟨Or.inl, fun z => z.elim id (fun w => absurd w.1 (by omega))⟩)
      refine v_take 2 rfl ?_
      show V l G cX8_close (yX8_close, 4, (some FieldType.boolean), 0, 0, 0) P (0, 0) S0 (row μ0 (m + 8) f2) 394 [.ref m, vi k] []
      refine v_iinc aX8_close_394 rfl (by decide) rfl ?_
      refine v_goto 302 rfl aX8_close_397 ?_
      refine ih (k + 1) f2 [] (by omega) (by omega) ?_
      rw [show (k + 1).toNat = k.toNat + 1 by omega]
      refine h2.eq fun x y _ _ _ _ => ?_
      show _ ↔ _ ∨ (_ ∧ _)
      rw [hkk]
end MCLOSE
