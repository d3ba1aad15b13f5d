/-! the model: line, told, image, restore -/
theorem tq (w : Int) : w = 10 * w.tdiv 10 + w.tmod 10 ∧ (0 ≤ w → 0 ≤ w.tmod 10 ∧ w.tmod 10 < 10) ∧ (w < 0 → -10 < w.tmod 10 ∧ w.tmod 10 ≤ 0) := by
  refine ⟨(Int.mul_tdiv_add_tmod w 10).symm, fun h => ⟨Int.tmod_nonneg 10 h, Int.tmod_lt_of_pos w (by decide)⟩, fun h => ?_⟩
  have h1 : (-w).tmod 10 = -(w.tmod 10) := Int.neg_tmod w 10
  have h2 : 0 ≤ (-w).tmod 10 := Int.tmod_nonneg 10 (by omega)
  have h3 : (-w).tmod 10 < 10 := Int.tmod_lt_of_pos (-w) (by decide)
  omega
/-- an image i in the row of images -/
def MiAt (f : Int → Int) (i : Int) (t : BSt) : Prop := (∀ z : Int, 0 ≤ z → z < 60 → f (93 * i + z) = t.2.2.2.1 z) ∧ (∀ k : Int, 0 ≤ k → k < 6 → f (93 * i + 60 + k) = t.2.2.2.2.1 k ∧ f (93 * i + 66 + k) = t.2.2.2.2.2.2.2.1 k ∧ f (93 * i + 72 + k) = t.2.2.2.2.2.1 k ∧ f (93 * i + 78 + k) = t.2.2.2.2.2.2.1 k ∧ f (93 * i + 84 + k) = t.2.2.2.2.2.2.2.2 k) ∧ f (93 * i + 90) = t.1 ∧ f (93 * i + 91) = t.2.1 ∧ f (93 * i + 92) = t.2.2.1
section MOD2
variable {l : Launch} {G : Glb} {S : Sh} {μ : Mu} {m : Nat} {t : BSt} {g : Int → Int} {n : Int}
set_option maxHeartbeats 4000000 in
set_option maxRecDepth 100000 in
theorem c_X8_told {w : Int} (hM : ModS S m) (h : MoAt μ m t g n) (hw : (-2147483648 ≤ w ∧ w < 2147483648)) (ht : 2 ≤ t.1 ∧ t.1 ≤ 6) : Ct l G cX8_told (yX8_told, 3, (some FieldType.int), 2, 0, 0) [.ref m, vi w] S μ (Re S (fun z μ' => z = sp_told t n w ∧ MoAt μ' m t g n ∧ Out μ μ' m 20)) := by
  have f0 : μ m 0 = t.1 := h.1.1
  have f3 : μ m 3 = t.2.1 := h.1.2.1
  have f9 : μ m 9 = t.2.2.1 := h.1.2.2.1
  have f1 : μ m 1 = n := h.2.2
  have hq := tq w
  refine Ct.of (by decide) rfl (by simp [vi, Value.category]) (Nat.le_of_ble_eq_true rfl) ?_
  refine v_iload_n aX8_told_0 rfl ?_
  refine v_bipush (by decide) aX8_told_1 ?_
  refine v_bipush (by decide) aX8_told_3 ?_
  refine v_cSi (c_X8_in (by omega) (by omega) (by omega)) aX8_told_5 mX8_in sX8_in lX8_79 rfl rfl (Nat.le_of_ble_eq_true rfl) ⟨Nat.le_of_ble_eq_true rfl, Nat.le_of_ble_eq_true rfl⟩ (Nat.le_of_ble_eq_true rfl) ?_
  refine v_if_eq_b 21 rfl aX8_told_8 (fun c8 => ?_) (fun c8 => ?_)
  · --
    refine v_iload_n aX8_told_21 rfl ?_
    refine v_bipush (by decide) aX8_told_22 ?_
    refine v_iremT (by omega) (by omega) aX8_told_24 ?_
    refine v_istore_n aX8_told_25 (by decide) rfl ?_
    refine v_iload_n aX8_told_26 rfl ?_
    refine v_iconst aX8_told_27 ?_
    refine v_iconst aX8_told_28 ?_
    refine v_cSi (c_X8_in (by omega) (by omega) (by omega)) aX8_told_29 mX8_in sX8_in lX8_79 rfl rfl (Nat.le_of_ble_eq_true rfl) ⟨Nat.le_of_ble_eq_true rfl, Nat.le_of_ble_eq_true rfl⟩ (Nat.le_of_ble_eq_true rfl) ?_
    refine v_if_ne_b 46 rfl aX8_told_32 (fun c32 => ?_) (fun c32 => ?_)
    · --
      refine v_iload_n aX8_told_46 rfl ?_
      refine v_bipush (by decide) aX8_told_47 ?_
      refine v_idivT (by omega) (by omega) aX8_told_49 ?_
      rcases (show w.tdiv 10 < 0 ∨ 5 < w.tdiv 10 ∨ w.tdiv 10 = 0 ∨ w.tdiv 10 = 1 ∨ w.tdiv 10 = 2 ∨ w.tdiv 10 = 3 ∨ w.tdiv 10 = 4 ∨ w.tdiv 10 = 5 by omega) with t50 | t50 | t50 | t50 | t50 | t50 | t50 | t50
      · --
        refine v_tableOut 166 aX8_told_50 (by omega) (Or.inl t50) rfl ?_
        refine v_bipush (by decide) aX8_told_166 ?_
        refine v_ireturn aX8_told_168 rfl ⟨Nat.le_refl _, Nat.le_refl _⟩ ?_
        refine ⟨_, rfl, rfl, ?_, h, Out.rf⟩
        unfold sp_told
        repeat rw [if_neg (by omega)]
      · --
        refine v_tableOut 166 aX8_told_50 (by omega) (Or.inr t50) rfl ?_
        refine v_bipush (by decide) aX8_told_166 ?_
        refine v_ireturn aX8_told_168 rfl ⟨Nat.le_refl _, Nat.le_refl _⟩ ?_
        refine ⟨_, rfl, rfl, ?_, h, Out.rf⟩
        unfold sp_told
        repeat rw [if_neg (by omega)]
      · --
        refine v_tableIn 88 aX8_told_50 (by omega) (by omega) (by omega) (by rw [t50]; rfl) rfl ?_
        refine v_iload_n aX8_told_88 rfl ?_
        refine v_if_ne 99 rfl aX8_told_89 (by omega) (fun c89 => ?_) (fun c89 => ?_)
        · --
          refine v_iload_n aX8_told_99 rfl ?_
          refine v_iconst aX8_told_100 ?_
          refine v_icmp_ne 111 rfl aX8_told_101 (by omega) (by omega) (fun c101 => ?_) (fun c101 => ?_)
          · --
            refine v_iload_n aX8_told_111 rfl ?_
            refine v_iconst aX8_told_112 ?_
            refine v_icmp_ne 123 rfl aX8_told_113 (by omega) (by omega) (fun c113 => ?_) (fun c113 => ?_)
            · --
              refine v_iload_n aX8_told_123 rfl ?_
              refine v_iconst aX8_told_124 ?_
              refine v_icmp_ne 135 rfl aX8_told_125 (by omega) (by omega) (fun c125 => ?_) (fun c125 => ?_)
              · --
                refine v_bipush (by decide) aX8_told_135 ?_
                refine v_ireturn aX8_told_137 rfl ⟨Nat.le_refl _, Nat.le_refl _⟩ ?_
                refine ⟨_, rfl, rfl, ?_, h, Out.rf⟩
                unfold sp_told
                first
                  | (rw [if_pos (by omega)]; exact f1)
                  | (rw [if_neg (by omega), if_pos (by omega)]; exact f0)
                  | (rw [if_neg (by omega), if_neg (by omega), if_pos (by omega)]; exact f3)
                  | (rw [if_neg (by omega), if_neg (by omega), if_neg (by omega), if_pos (by omega)]; exact f9)
                  | (repeat rw [if_neg (by omega)])
              · --
                refine v_aload_n aX8_told_128 rfl ?_
                refine v_gi 9 rfl aX8_told_129 fX8_168 hM.p rfl rfl ?_
                refine v_goto 137 rfl aX8_told_132 ?_
                refine v_ireturn aX8_told_137 rfl ⟨Nat.le_refl _, Nat.le_refl _⟩ ?_
                refine ⟨_, rfl, rfl, ?_, h, Out.rf⟩
                unfold sp_told
                first
                  | (rw [if_pos (by omega)]; exact f1)
                  | (rw [if_neg (by omega), if_pos (by omega)]; exact f0)
                  | (rw [if_neg (by omega), if_neg (by omega), if_pos (by omega)]; exact f3)
                  | (rw [if_neg (by omega), if_neg (by omega), if_neg (by omega), if_pos (by omega)]; exact f9)
                  | (repeat rw [if_neg (by omega)])
            · --
              refine v_aload_n aX8_told_116 rfl ?_
              refine v_gi 3 rfl aX8_told_117 fX8_83 hM.p rfl rfl ?_
              refine v_goto 137 rfl aX8_told_120 ?_
              refine v_ireturn aX8_told_137 rfl ⟨Nat.le_refl _, Nat.le_refl _⟩ ?_
              refine ⟨_, rfl, rfl, ?_, h, Out.rf⟩
              unfold sp_told
              first
                | (rw [if_pos (by omega)]; exact f1)
                | (rw [if_neg (by omega), if_pos (by omega)]; exact f0)
                | (rw [if_neg (by omega), if_neg (by omega), if_pos (by omega)]; exact f3)
                | (rw [if_neg (by omega), if_neg (by omega), if_neg (by omega), if_pos (by omega)]; exact f9)
                | (repeat rw [if_neg (by omega)])
          · --
            refine v_aload_n aX8_told_104 rfl ?_
            refine v_gi 0 rfl aX8_told_105 fX8_7 hM.p rfl rfl ?_
            refine v_goto 137 rfl aX8_told_108 ?_
            refine v_ireturn aX8_told_137 rfl ⟨Nat.le_refl _, Nat.le_refl _⟩ ?_
            refine ⟨_, rfl, rfl, ?_, h, Out.rf⟩
            unfold sp_told
            first
              | (rw [if_pos (by omega)]; exact f1)
              | (rw [if_neg (by omega), if_pos (by omega)]; exact f0)
              | (rw [if_neg (by omega), if_neg (by omega), if_pos (by omega)]; exact f3)
              | (rw [if_neg (by omega), if_neg (by omega), if_neg (by omega), if_pos (by omega)]; exact f9)
              | (repeat rw [if_neg (by omega)])
        · --
          refine v_aload_n aX8_told_92 rfl ?_
          refine v_gi 1 rfl aX8_told_93 fX8_86 hM.p rfl rfl ?_
          refine v_goto 137 rfl aX8_told_96 ?_
          refine v_ireturn aX8_told_137 rfl ⟨Nat.le_refl _, Nat.le_refl _⟩ ?_
          refine ⟨_, rfl, rfl, ?_, h, Out.rf⟩
          unfold sp_told
          first
            | (rw [if_pos (by omega)]; exact f1)
            | (rw [if_neg (by omega), if_pos (by omega)]; exact f0)
            | (rw [if_neg (by omega), if_neg (by omega), if_pos (by omega)]; exact f3)
            | (rw [if_neg (by omega), if_neg (by omega), if_neg (by omega), if_pos (by omega)]; exact f9)
            | (repeat rw [if_neg (by omega)])
      · --
        refine v_tableIn 166 aX8_told_50 (by omega) (by omega) (by omega) (by rw [t50]; rfl) rfl ?_
        refine v_bipush (by decide) aX8_told_166 ?_
        refine v_ireturn aX8_told_168 rfl ⟨Nat.le_refl _, Nat.le_refl _⟩ ?_
        refine ⟨_, rfl, rfl, ?_, h, Out.rf⟩
        unfold sp_told
        repeat rw [if_neg (by omega)]
      · --
        refine v_tableIn 138 aX8_told_50 (by omega) (by omega) (by omega) (by rw [t50]; rfl) rfl ?_
        refine v_aload_n aX8_told_138 rfl ?_
        refine v_getr aX8_told_139 fX8_32 hM.p rfl rfl ?_
        refine v_iload_n aX8_told_142 rfl ?_
        refine v_iald aX8_told_143 hM.p_weights (by omega) (by decide) ?_
        refine v_ireturn aX8_told_144 rfl ⟨Nat.le_refl _, Nat.le_refl _⟩ ?_
        refine ⟨_, rfl, rfl, ?_, h, Out.rf⟩
        unfold sp_told
        rw [if_neg (by omega), if_neg (by omega), if_neg (by omega), if_neg (by omega), if_neg (by omega), if_pos (by omega), h.1.2.2.2.2.2.2.2.2 _ (by omega) (by omega)]
        exact congrArg _ (by omega)
      · --
        refine v_tableIn 145 aX8_told_50 (by omega) (by omega) (by omega) (by rw [t50]; rfl) rfl ?_
        refine v_aload_n aX8_told_145 rfl ?_
        refine v_getr aX8_told_146 fX8_20 hM.p rfl rfl ?_
        refine v_iload_n aX8_told_149 rfl ?_
        refine v_iald aX8_told_150 hM.p_lifts (by omega) (by decide) ?_
        refine v_ireturn aX8_told_151 rfl ⟨Nat.le_refl _, Nat.le_refl _⟩ ?_
        refine ⟨_, rfl, rfl, ?_, h, Out.rf⟩
        unfold sp_told
        rw [if_neg (by omega), if_neg (by omega), if_neg (by omega), if_neg (by omega), if_neg (by omega), if_neg (by omega), if_pos (by omega), h.1.2.2.2.2.1 _ (by omega) (by omega)]
        exact congrArg _ (by omega)
      · --
        refine v_tableIn 152 aX8_told_50 (by omega) (by omega) (by omega) (by rw [t50]; rfl) rfl ?_
        refine v_aload_n aX8_told_152 rfl ?_
        refine v_getr aX8_told_153 fX8_26 hM.p rfl rfl ?_
        refine v_iload_n aX8_told_156 rfl ?_
        refine v_iald aX8_told_157 hM.p_low (by omega) (by decide) ?_
        refine v_ireturn aX8_told_158 rfl ⟨Nat.le_refl _, Nat.le_refl _⟩ ?_
        refine ⟨_, rfl, rfl, ?_, h, Out.rf⟩
        unfold sp_told
        rw [if_neg (by omega), if_neg (by omega), if_neg (by omega), if_neg (by omega), if_neg (by omega), if_neg (by omega), if_neg (by omega), if_pos (by omega), h.1.2.2.2.2.2.1 _ (by omega) (by omega)]
        exact congrArg _ (by omega)
      · --
        refine v_tableIn 159 aX8_told_50 (by omega) (by omega) (by omega) (by rw [t50]; rfl) rfl ?_
        refine v_aload_n aX8_told_159 rfl ?_
        refine v_getr aX8_told_160 fX8_29 hM.p rfl rfl ?_
        refine v_iload_n aX8_told_163 rfl ?_
        refine v_iald aX8_told_164 hM.p_high (by omega) (by decide) ?_
        refine v_ireturn aX8_told_165 rfl ⟨Nat.le_refl _, Nat.le_refl _⟩ ?_
        refine ⟨_, rfl, rfl, ?_, h, Out.rf⟩
        unfold sp_told
        rw [if_neg (by omega), if_neg (by omega), if_neg (by omega), if_neg (by omega), if_neg (by omega), if_neg (by omega), if_neg (by omega), if_neg (by omega), if_pos (by omega), h.1.2.2.2.2.2.2.1 _ (by omega) (by omega)]
        exact congrArg _ (by omega)
    · --
      refine v_aload_n aX8_told_35 rfl ?_
      refine v_iload_n aX8_told_36 rfl ?_
      refine v_cVi (c_X8_isSack hM (by omega) (by omega)) aX8_told_37 mX8_isSack vX8_isSack lX8_89 hM.p rfl rfl rfl rfl rfl (Nat.le_of_ble_eq_true rfl) ⟨Nat.le_of_ble_eq_true rfl, Nat.le_of_ble_eq_true rfl⟩ (Nat.le_of_ble_eq_true rfl) ?_
      refine v_if_ne_b 46 rfl aX8_told_40 (fun c40 => ?_) (fun c40 => ?_)
      · --
        refine v_iload_n aX8_told_46 rfl ?_
        refine v_bipush (by decide) aX8_told_47 ?_
        refine v_idivT (by omega) (by omega) aX8_told_49 ?_
        rcases (show w.tdiv 10 < 0 ∨ 5 < w.tdiv 10 ∨ w.tdiv 10 = 0 ∨ w.tdiv 10 = 1 ∨ w.tdiv 10 = 2 ∨ w.tdiv 10 = 3 ∨ w.tdiv 10 = 4 ∨ w.tdiv 10 = 5 by omega) with t50 | t50 | t50 | t50 | t50 | t50 | t50 | t50
        · --
          refine v_tableOut 166 aX8_told_50 (by omega) (Or.inl t50) rfl ?_
          refine v_bipush (by decide) aX8_told_166 ?_
          refine v_ireturn aX8_told_168 rfl ⟨Nat.le_refl _, Nat.le_refl _⟩ ?_
          refine ⟨_, rfl, rfl, ?_, h, Out.rf⟩
          unfold sp_told
          repeat rw [if_neg (by omega)]
        · --
          refine v_tableOut 166 aX8_told_50 (by omega) (Or.inr t50) rfl ?_
          refine v_bipush (by decide) aX8_told_166 ?_
          refine v_ireturn aX8_told_168 rfl ⟨Nat.le_refl _, Nat.le_refl _⟩ ?_
          refine ⟨_, rfl, rfl, ?_, h, Out.rf⟩
          unfold sp_told
          repeat rw [if_neg (by omega)]
        · --
          refine v_tableIn 88 aX8_told_50 (by omega) (by omega) (by omega) (by rw [t50]; rfl) rfl ?_
          refine v_iload_n aX8_told_88 rfl ?_
          refine v_if_ne 99 rfl aX8_told_89 (by omega) (fun c89 => ?_) (fun c89 => ?_)
          · --
            refine v_iload_n aX8_told_99 rfl ?_
            refine v_iconst aX8_told_100 ?_
            refine v_icmp_ne 111 rfl aX8_told_101 (by omega) (by omega) (fun c101 => ?_) (fun c101 => ?_)
            · --
              refine v_iload_n aX8_told_111 rfl ?_
              refine v_iconst aX8_told_112 ?_
              refine v_icmp_ne 123 rfl aX8_told_113 (by omega) (by omega) (fun c113 => ?_) (fun c113 => ?_)
              · --
                refine v_iload_n aX8_told_123 rfl ?_
                refine v_iconst aX8_told_124 ?_
                refine v_icmp_ne 135 rfl aX8_told_125 (by omega) (by omega) (fun c125 => ?_) (fun c125 => ?_)
                · --
                  refine v_bipush (by decide) aX8_told_135 ?_
                  refine v_ireturn aX8_told_137 rfl ⟨Nat.le_refl _, Nat.le_refl _⟩ ?_
                  refine ⟨_, rfl, rfl, ?_, h, Out.rf⟩
                  unfold sp_told
                  first
                    | (rw [if_pos (by omega)]; exact f1)
                    | (rw [if_neg (by omega), if_pos (by omega)]; exact f0)
                    | (rw [if_neg (by omega), if_neg (by omega), if_pos (by omega)]; exact f3)
                    | (rw [if_neg (by omega), if_neg (by omega), if_neg (by omega), if_pos (by omega)]; exact f9)
                    | (repeat rw [if_neg (by omega)])
                · --
                  refine v_aload_n aX8_told_128 rfl ?_
                  refine v_gi 9 rfl aX8_told_129 fX8_168 hM.p rfl rfl ?_
                  refine v_goto 137 rfl aX8_told_132 ?_
                  refine v_ireturn aX8_told_137 rfl ⟨Nat.le_refl _, Nat.le_refl _⟩ ?_
                  refine ⟨_, rfl, rfl, ?_, h, Out.rf⟩
                  unfold sp_told
                  first
                    | (rw [if_pos (by omega)]; exact f1)
                    | (rw [if_neg (by omega), if_pos (by omega)]; exact f0)
                    | (rw [if_neg (by omega), if_neg (by omega), if_pos (by omega)]; exact f3)
                    | (rw [if_neg (by omega), if_neg (by omega), if_neg (by omega), if_pos (by omega)]; exact f9)
                    | (repeat rw [if_neg (by omega)])
              · --
                refine v_aload_n aX8_told_116 rfl ?_
                refine v_gi 3 rfl aX8_told_117 fX8_83 hM.p rfl rfl ?_
                refine v_goto 137 rfl aX8_told_120 ?_
                refine v_ireturn aX8_told_137 rfl ⟨Nat.le_refl _, Nat.le_refl _⟩ ?_
                refine ⟨_, rfl, rfl, ?_, h, Out.rf⟩
                unfold sp_told
                first
                  | (rw [if_pos (by omega)]; exact f1)
                  | (rw [if_neg (by omega), if_pos (by omega)]; exact f0)
                  | (rw [if_neg (by omega), if_neg (by omega), if_pos (by omega)]; exact f3)
                  | (rw [if_neg (by omega), if_neg (by omega), if_neg (by omega), if_pos (by omega)]; exact f9)
                  | (repeat rw [if_neg (by omega)])
            · --
              refine v_aload_n aX8_told_104 rfl ?_
              refine v_gi 0 rfl aX8_told_105 fX8_7 hM.p rfl rfl ?_
              refine v_goto 137 rfl aX8_told_108 ?_
              refine v_ireturn aX8_told_137 rfl ⟨Nat.le_refl _, Nat.le_refl _⟩ ?_
              refine ⟨_, rfl, rfl, ?_, h, Out.rf⟩
              unfold sp_told
              first
                | (rw [if_pos (by omega)]; exact f1)
                | (rw [if_neg (by omega), if_pos (by omega)]; exact f0)
                | (rw [if_neg (by omega), if_neg (by omega), if_pos (by omega)]; exact f3)
                | (rw [if_neg (by omega), if_neg (by omega), if_neg (by omega), if_pos (by omega)]; exact f9)
                | (repeat rw [if_neg (by omega)])
          · --
            refine v_aload_n aX8_told_92 rfl ?_
            refine v_gi 1 rfl aX8_told_93 fX8_86 hM.p rfl rfl ?_
            refine v_goto 137 rfl aX8_told_96 ?_
            refine v_ireturn aX8_told_137 rfl ⟨Nat.le_refl _, Nat.le_refl _⟩ ?_
            refine ⟨_, rfl, rfl, ?_, h, Out.rf⟩
            unfold sp_told
            first
              | (rw [if_pos (by omega)]; exact f1)
              | (rw [if_neg (by omega), if_pos (by omega)]; exact f0)
              | (rw [if_neg (by omega), if_neg (by omega), if_pos (by omega)]; exact f3)
              | (rw [if_neg (by omega), if_neg (by omega), if_neg (by omega), if_pos (by omega)]; exact f9)
              | (repeat rw [if_neg (by omega)])
        · --
          refine v_tableIn 166 aX8_told_50 (by omega) (by omega) (by omega) (by rw [t50]; rfl) rfl ?_
          refine v_bipush (by decide) aX8_told_166 ?_
          refine v_ireturn aX8_told_168 rfl ⟨Nat.le_refl _, Nat.le_refl _⟩ ?_
          refine ⟨_, rfl, rfl, ?_, h, Out.rf⟩
          unfold sp_told
          repeat rw [if_neg (by omega)]
        · --
          refine v_tableIn 138 aX8_told_50 (by omega) (by omega) (by omega) (by rw [t50]; rfl) rfl ?_
          refine v_aload_n aX8_told_138 rfl ?_
          refine v_getr aX8_told_139 fX8_32 hM.p rfl rfl ?_
          refine v_iload_n aX8_told_142 rfl ?_
          refine v_iald aX8_told_143 hM.p_weights (by omega) (by decide) ?_
          refine v_ireturn aX8_told_144 rfl ⟨Nat.le_refl _, Nat.le_refl _⟩ ?_
          refine ⟨_, rfl, rfl, ?_, h, Out.rf⟩
          unfold sp_told
          rw [if_neg (by omega), if_neg (by omega), if_neg (by omega), if_neg (by omega), if_neg (by omega), if_pos (by omega), h.1.2.2.2.2.2.2.2.2 _ (by omega) (by omega)]
          exact congrArg _ (by omega)
        · --
          refine v_tableIn 145 aX8_told_50 (by omega) (by omega) (by omega) (by rw [t50]; rfl) rfl ?_
          refine v_aload_n aX8_told_145 rfl ?_
          refine v_getr aX8_told_146 fX8_20 hM.p rfl rfl ?_
          refine v_iload_n aX8_told_149 rfl ?_
          refine v_iald aX8_told_150 hM.p_lifts (by omega) (by decide) ?_
          refine v_ireturn aX8_told_151 rfl ⟨Nat.le_refl _, Nat.le_refl _⟩ ?_
          refine ⟨_, rfl, rfl, ?_, h, Out.rf⟩
          unfold sp_told
          rw [if_neg (by omega), if_neg (by omega), if_neg (by omega), if_neg (by omega), if_neg (by omega), if_neg (by omega), if_pos (by omega), h.1.2.2.2.2.1 _ (by omega) (by omega)]
          exact congrArg _ (by omega)
        · --
          refine v_tableIn 152 aX8_told_50 (by omega) (by omega) (by omega) (by rw [t50]; rfl) rfl ?_
          refine v_aload_n aX8_told_152 rfl ?_
          refine v_getr aX8_told_153 fX8_26 hM.p rfl rfl ?_
          refine v_iload_n aX8_told_156 rfl ?_
          refine v_iald aX8_told_157 hM.p_low (by omega) (by decide) ?_
          refine v_ireturn aX8_told_158 rfl ⟨Nat.le_refl _, Nat.le_refl _⟩ ?_
          refine ⟨_, rfl, rfl, ?_, h, Out.rf⟩
          unfold sp_told
          rw [if_neg (by omega), if_neg (by omega), if_neg (by omega), if_neg (by omega), if_neg (by omega), if_neg (by omega), if_neg (by omega), if_pos (by omega), h.1.2.2.2.2.2.1 _ (by omega) (by omega)]
          exact congrArg _ (by omega)
        · --
          refine v_tableIn 159 aX8_told_50 (by omega) (by omega) (by omega) (by rw [t50]; rfl) rfl ?_
          refine v_aload_n aX8_told_159 rfl ?_
          refine v_getr aX8_told_160 fX8_29 hM.p rfl rfl ?_
          refine v_iload_n aX8_told_163 rfl ?_
          refine v_iald aX8_told_164 hM.p_high (by omega) (by decide) ?_
          refine v_ireturn aX8_told_165 rfl ⟨Nat.le_refl _, Nat.le_refl _⟩ ?_
          refine ⟨_, rfl, rfl, ?_, h, Out.rf⟩
          unfold sp_told
          rw [if_neg (by omega), if_neg (by omega), if_neg (by omega), if_neg (by omega), if_neg (by omega), if_neg (by omega), if_neg (by omega), if_neg (by omega), if_pos (by omega), h.1.2.2.2.2.2.2.1 _ (by omega) (by omega)]
          exact congrArg _ (by omega)
      · --
        refine v_bipush (by decide) aX8_told_43 ?_
        refine v_ireturn aX8_told_45 rfl ⟨Nat.le_refl _, Nat.le_refl _⟩ ?_
        refine ⟨_, rfl, rfl, ?_, h, Out.rf⟩
        unfold sp_told
        repeat rw [if_neg (by omega)]
  · --
    refine v_aload_n aX8_told_11 rfl ?_
    refine v_getr aX8_told_12 fX8_23 hM.p rfl rfl ?_
    refine v_iload_n aX8_told_15 rfl ?_
    refine v_bipush (by decide) aX8_told_16 ?_
    refine v_isub aX8_told_18 ?_
    refine v_iald aX8_told_19 hM.p_tolls (by omega) (by decide) ?_
    refine v_ireturn aX8_told_20 rfl ⟨Nat.le_refl _, Nat.le_refl _⟩ ?_
    refine ⟨_, rfl, rfl, ?_, h, Out.rf⟩
    unfold sp_told
    rw [if_neg (by omega), if_neg (by omega), if_neg (by omega), if_neg (by omega), if_pos (by omega)]
    exact h.1.2.2.2.2.2.2.2.1 _ (by omega) (by omega)
set_option maxHeartbeats 4000000 in
set_option maxRecDepth 100000 in
theorem l2_X8_image {i : Int} {μ0 : Mu} {P : Pst} (hM : ModS S m) (hi : 0 ≤ i ∧ i ≤ 1) (hh : ∀ μ : Mu, (∀ q : Nat, q ≠ m + 20 → μ q = μ0 q) → (∀ k : Int, 0 ≤ k → k < 6 → μ (m + 20) (93 * i + 60 + k) = μ0 (m + 3) k ∧ μ (m + 20) (93 * i + 66 + k) = μ0 (m + 4) k ∧ μ (m + 20) (93 * i + 72 + k) = μ0 (m + 5) k ∧ μ (m + 20) (93 * i + 78 + k) = μ0 (m + 6) k ∧ μ (m + 20) (93 * i + 84 + k) = μ0 (m + 7) k) → (∀ w : Int, (w < 93 * i + 60 ∨ 93 * i + 90 ≤ w) → μ (m + 20) w = μ0 (m + 20) w) → V l G cX8_image (yX8_image, 4, (some FieldType.int), 1, 0, 0) P (0, 0) S μ 144 [.ref m, vi i, vi (93 * i), vi 6] []) : ∀ (N : Nat) (k : Int) (μ : Mu), (0 ≤ k ∧ k ≤ 6) → 6 - k < N → (∀ q : Nat, q ≠ m + 20 → μ q = μ0 q) → (∀ j : Int, 0 ≤ j → j < k → μ (m + 20) (93 * i + 60 + j) = μ0 (m + 3) j ∧ μ (m + 20) (93 * i + 66 + j) = μ0 (m + 4) j ∧ μ (m + 20) (93 * i + 72 + j) = μ0 (m + 5) j ∧ μ (m + 20) (93 * i + 78 + j) = μ0 (m + 6) j ∧ μ (m + 20) (93 * i + 84 + j) = μ0 (m + 7) j) → (∀ w : Int, (w < 93 * i + 60 ∨ 93 * i + 90 ≤ w) → μ (m + 20) w = μ0 (m + 20) w) → V l G cX8_image (yX8_image, 4, (some FieldType.int), 1, 0, 0) P (0, 0) S μ 47 [.ref m, vi i, vi (93 * i), vi k] [] := by
  intro N
  induction N with
  | zero => intro k μ h0 h1; omega
  | succ N ih =>
    intro k μ h0 h1 hq hj hw
    refine v_iload_n aX8_image_47 rfl ?_
    refine v_bipush (by decide) aX8_image_48 ?_
    refine v_icmp_ge 144 rfl aX8_image_50 (by omega) (by omega) (fun c50 => ?_) (fun c50 => ?_)
    · --
      obtain rfl : k = 6 := by omega
      exact hh μ hq hj hw
    · --
      refine v_aload_n aX8_image_53 rfl ?_
      refine v_getr aX8_image_54 fX8_73 hM.p rfl rfl ?_
      refine v_iload_n aX8_image_57 rfl ?_
      refine v_bipush (by decide) aX8_image_58 ?_
      refine v_iadd aX8_image_60 ?_
      refine v_iload_n aX8_image_61 rfl ?_
      refine v_iadd aX8_image_62 ?_
      refine v_aload_n aX8_image_63 rfl ?_
      refine v_getr aX8_image_64 fX8_20 hM.p rfl rfl ?_
      refine v_iload_n aX8_image_67 rfl ?_
      refine v_iald aX8_image_68 hM.p_lifts (by omega) (by decide) ?_
      refine v_iast aX8_image_69 hM.p_image (by omega) (by decide) ?_
      refine v_aload_n aX8_image_70 rfl ?_
      refine v_getr aX8_image_71 fX8_73 hM.p rfl rfl ?_
      refine v_iload_n aX8_image_74 rfl ?_
      refine v_bipush (by decide) aX8_image_75 ?_
      refine v_iadd aX8_image_77 ?_
      refine v_iload_n aX8_image_78 rfl ?_
      refine v_iadd aX8_image_79 ?_
      refine v_aload_n aX8_image_80 rfl ?_
      refine v_getr aX8_image_81 fX8_23 hM.p rfl rfl ?_
      refine v_iload_n aX8_image_84 rfl ?_
      refine v_iald aX8_image_85 hM.p_tolls (by omega) (by decide) ?_
      refine v_iast aX8_image_86 hM.p_image (by omega) (by decide) ?_
      refine v_aload_n aX8_image_87 rfl ?_
      refine v_getr aX8_image_88 fX8_73 hM.p rfl rfl ?_
      refine v_iload_n aX8_image_91 rfl ?_
      refine v_bipush (by decide) aX8_image_92 ?_
      refine v_iadd aX8_image_94 ?_
      refine v_iload_n aX8_image_95 rfl ?_
      refine v_iadd aX8_image_96 ?_
      refine v_aload_n aX8_image_97 rfl ?_
      refine v_getr aX8_image_98 fX8_26 hM.p rfl rfl ?_
      refine v_iload_n aX8_image_101 rfl ?_
      refine v_iald aX8_image_102 hM.p_low (by omega) (by decide) ?_
      refine v_iast aX8_image_103 hM.p_image (by omega) (by decide) ?_
      refine v_aload_n aX8_image_104 rfl ?_
      refine v_getr aX8_image_105 fX8_73 hM.p rfl rfl ?_
      refine v_iload_n aX8_image_108 rfl ?_
      refine v_bipush (by decide) aX8_image_109 ?_
      refine v_iadd aX8_image_111 ?_
      refine v_iload_n aX8_image_112 rfl ?_
      refine v_iadd aX8_image_113 ?_
      refine v_aload_n aX8_image_114 rfl ?_
      refine v_getr aX8_image_115 fX8_29 hM.p rfl rfl ?_
      refine v_iload_n aX8_image_118 rfl ?_
      refine v_iald aX8_image_119 hM.p_high (by omega) (by decide) ?_
      refine v_iast aX8_image_120 hM.p_image (by omega) (by decide) ?_
      refine v_aload_n aX8_image_121 rfl ?_
      refine v_getr aX8_image_122 fX8_73 hM.p rfl rfl ?_
      refine v_iload_n aX8_image_125 rfl ?_
      refine v_bipush (by decide) aX8_image_126 ?_
      refine v_iadd aX8_image_128 ?_
      refine v_iload_n aX8_image_129 rfl ?_
      refine v_iadd aX8_image_130 ?_
      refine v_aload_n aX8_image_131 rfl ?_
      refine v_getr aX8_image_132 fX8_32 hM.p rfl rfl ?_
      refine v_iload_n aX8_image_135 rfl ?_
      refine v_iald aX8_image_136 hM.p_weights (by omega) (by decide) ?_
      refine v_iast aX8_image_137 hM.p_image (by omega) (by decide) ?_
      refine v_iinc aX8_image_138 rfl (by decide) rfl ?_
      refine v_goto 47 rfl aX8_image_141 ?_
      refine ih (k + 1) _ (by omega) (by omega) (fun q e => ?_) (fun j j0 j1 => ?_) (fun w h9 => ?_)
      · rw [upd2_row e, upd2_row e, upd2_row e, upd2_row e, upd2_row e]; exact hq q e
      · by_cases e : j = k
        · subst e
          refine ⟨?_, ?_, ?_, ?_, ?_⟩
          · rw [upd2_ap, if_neg (by omega), upd2_ap, if_neg (by omega), upd2_ap, if_neg (by omega), upd2_ap, if_neg (by omega), upd2_same, hq _ (by omega)]
          · rw [upd2_ap, if_neg (by omega), upd2_ap, if_neg (by omega), upd2_ap, if_neg (by omega), upd2_same, upd2_row (by omega), hq _ (by omega)]
          · rw [upd2_ap, if_neg (by omega), upd2_ap, if_neg (by omega), upd2_same, upd2_row (by omega), upd2_row (by omega), hq _ (by omega)]
          · rw [upd2_ap, if_neg (by omega), upd2_same, upd2_row (by omega), upd2_row (by omega), upd2_row (by omega), hq _ (by omega)]
          · rw [upd2_same, upd2_row (by omega), upd2_row (by omega), upd2_row (by omega), upd2_row (by omega), hq _ (by omega)]
        · obtain ⟨j1, j2, j3, j4, j5⟩ := hj j j0 (by omega)
          refine ⟨?_, ?_, ?_, ?_, ?_⟩ <;> rw [upd2_ap, if_neg (by omega), upd2_ap, if_neg (by omega), upd2_ap, if_neg (by omega), upd2_ap, if_neg (by omega), upd2_ap, if_neg (by omega)] <;> assumption
      · rw [upd2_ap, if_neg (by omega), upd2_ap, if_neg (by omega), upd2_ap, if_neg (by omega), upd2_ap, if_neg (by omega), upd2_ap, if_neg (by omega)]; exact hw w h9
set_option maxHeartbeats 4000000 in
set_option maxRecDepth 100000 in
theorem l1_X8_image {i : Int} {μ0 : Mu} {P : Pst} (hM : ModS S m) (hi : 0 ≤ i ∧ i ≤ 1) (hh : ∀ μ : Mu, (∀ q : Nat, q ≠ m + 20 → μ q = μ0 q) → (∀ k : Int, 0 ≤ k → k < 60 → μ (m + 20) (93 * i + k) = μ0 (m + 2) k) → (∀ w : Int, (w < 93 * i ∨ 93 * i + 60 ≤ w) → μ (m + 20) w = μ0 (m + 20) w) → V l G cX8_image (yX8_image, 4, (some FieldType.int), 1, 0, 0) P (0, 0) S μ 45 [.ref m, vi i, vi (93 * i), vi 60] []) : ∀ (N : Nat) (k : Int) (μ : Mu), (0 ≤ k ∧ k ≤ 60) → 60 - k < N → (∀ q : Nat, q ≠ m + 20 → μ q = μ0 q) → (∀ j : Int, 0 ≤ j → j < k → μ (m + 20) (93 * i + j) = μ0 (m + 2) j) → (∀ w : Int, (w < 93 * i ∨ 93 * i + 60 ≤ w) → μ (m + 20) w = μ0 (m + 20) w) → V l G cX8_image (yX8_image, 4, (some FieldType.int), 1, 0, 0) P (0, 0) S μ 19 [.ref m, vi i, vi (93 * i), vi k] [] := by
  intro N
  induction N with
  | zero => intro k μ h0 h1; omega
  | succ N ih =>
    intro k μ h0 h1 hq hj hw
    refine v_iload_n aX8_image_19 rfl ?_
    refine v_bipush (by decide) aX8_image_20 ?_
    refine v_icmp_ge 45 rfl aX8_image_22 (by omega) (by omega) (fun c22 => ?_) (fun c22 => ?_)
    · --
      obtain rfl : k = 60 := by omega
      exact hh μ hq hj hw
    · --
      refine v_aload_n aX8_image_25 rfl ?_
      refine v_getr aX8_image_26 fX8_73 hM.p rfl rfl ?_
      refine v_iload_n aX8_image_29 rfl ?_
      refine v_iload_n aX8_image_30 rfl ?_
      refine v_iadd aX8_image_31 ?_
      refine v_aload_n aX8_image_32 rfl ?_
      refine v_getr aX8_image_33 fX8_17 hM.p rfl rfl ?_
      refine v_iload_n aX8_image_36 rfl ?_
      refine v_iald aX8_image_37 hM.p_book (by omega) (by decide) ?_
      refine v_iast aX8_image_38 hM.p_image (by omega) (by decide) ?_
      refine v_iinc aX8_image_39 rfl (by decide) rfl ?_
      refine v_goto 19 rfl aX8_image_42 ?_
      refine ih (k + 1) _ (by omega) (by omega) (fun q e => ?_) (fun j j0 j1 => ?_) (fun w h9 => ?_)
      · rw [upd2_row e]; exact hq q e
      · by_cases e : j = k
        · subst e
          rw [upd2_same, hq _ (by omega)]
        · rw [upd2_ap, if_neg (by omega)]; exact hj j j0 (by omega)
      · rw [upd2_ap, if_neg (by omega)]; exact hw w h9
set_option maxHeartbeats 4000000 in
set_option maxRecDepth 100000 in
theorem c_X8_image {i : Int} (hM : ModS S m) (h : MoAt μ m t g n) (hi : (-2147483648 ≤ i ∧ i < 2147483648)) : Ct l G cX8_image (yX8_image, 4, (some FieldType.int), 1, 0, 0) [.ref m, vi i] S μ (Re S (fun z μ' => (0 ≤ i ∧ i ≤ 1 → z = 1 ∧ MiAt (μ' (m + 20)) i t ∧ (∀ w : Int, (w < 93 * i ∨ 93 * i + 93 ≤ w) → μ' (m + 20) w = μ (m + 20) w) ∧ μ' (m + 21) = iup (μ (m + 21)) i 1 ∧ ∀ q : Nat, q ≠ m + 20 → q ≠ m + 21 → μ' q = μ q) ∧ (¬ (0 ≤ i ∧ i ≤ 1) → z = -2 ∧ μ' = μ))) := by
  have f0 : μ m 0 = t.1 := h.1.1
  have f3 : μ m 3 = t.2.1 := h.1.2.1
  have f9 : μ m 9 = t.2.2.1 := h.1.2.2.1
  have f1 : μ m 1 = n := h.2.2
  refine Ct.of (by decide) rfl (by simp [vi, Value.category]) (Nat.le_of_ble_eq_true rfl) ?_
  refine v_iload_n aX8_image_0 rfl ?_
  refine v_iconst aX8_image_1 ?_
  refine v_iconst aX8_image_2 ?_
  refine v_cSi (c_X8_in (by omega) (by omega) (by omega)) aX8_image_3 mX8_in sX8_in lX8_79 rfl rfl (Nat.le_of_ble_eq_true rfl) ⟨Nat.le_of_ble_eq_true rfl, Nat.le_of_ble_eq_true rfl⟩ (Nat.le_of_ble_eq_true rfl) ?_
  refine v_if_ne_b 12 rfl aX8_image_6 (fun c6 => ?_) (fun c6 => ?_)
  · --
    refine v_bipush (by decide) aX8_image_12 ?_
    refine v_iload_n aX8_image_14 rfl ?_
    refine v_imul aX8_image_15 ?_
    refine v_istore_n aX8_image_16 (by decide) rfl ?_
    refine v_iconst aX8_image_17 ?_
    refine v_istore_n aX8_image_18 (by decide) rfl ?_
    refine l1_X8_image (μ0 := μ) hM c6 (fun μ1 a1 a2 a3 => ?_) 61 0 _ (by omega) (by omega) (fun _ _ => rfl) (fun j j0 j1 => by omega) (fun _ _ => rfl)
    refine v_iconst aX8_image_45 ?_
    refine v_istore_n aX8_image_46 (by decide) rfl ?_
    refine l2_X8_image (μ0 := μ1) hM c6 (fun μ2 b1 b2 b3 => ?_) 7 0 _ (by omega) (by omega) (fun _ _ => rfl) (fun j j0 j1 => by omega) (fun _ _ => rfl)
    refine v_aload_n aX8_image_144 rfl ?_
    refine v_getr aX8_image_145 fX8_73 hM.p rfl rfl ?_
    refine v_iload_n aX8_image_148 rfl ?_
    refine v_bipush (by decide) aX8_image_149 ?_
    refine v_iadd aX8_image_151 ?_
    refine v_aload_n aX8_image_152 rfl ?_
    refine v_gi 0 rfl aX8_image_153 fX8_7 hM.p rfl rfl ?_
    rw [b1 m (by omega), a1 m (by omega)]
    refine v_iast aX8_image_156 hM.p_image (by omega) (by decide) ?_
    refine v_aload_n aX8_image_157 rfl ?_
    refine v_getr aX8_image_158 fX8_73 hM.p rfl rfl ?_
    refine v_iload_n aX8_image_161 rfl ?_
    refine v_bipush (by decide) aX8_image_162 ?_
    refine v_iadd aX8_image_164 ?_
    refine v_aload_n aX8_image_165 rfl ?_
    refine v_gi 3 rfl aX8_image_166 fX8_83 hM.p rfl rfl ?_
    rw [upd2_row (by omega), b1 m (by omega), a1 m (by omega)]
    refine v_iast aX8_image_169 hM.p_image (by omega) (by decide) ?_
    refine v_aload_n aX8_image_170 rfl ?_
    refine v_getr aX8_image_171 fX8_73 hM.p rfl rfl ?_
    refine v_iload_n aX8_image_174 rfl ?_
    refine v_bipush (by decide) aX8_image_175 ?_
    refine v_iadd aX8_image_177 ?_
    refine v_aload_n aX8_image_178 rfl ?_
    refine v_gi 9 rfl aX8_image_179 fX8_168 hM.p rfl rfl ?_
    rw [upd2_row (by omega), upd2_row (by omega), b1 m (by omega), a1 m (by omega)]
    refine v_iast aX8_image_182 hM.p_image (by omega) (by decide) ?_
    refine v_aload_n aX8_image_183 rfl ?_
    refine v_getr aX8_image_184 fX8_76 hM.p rfl rfl ?_
    refine v_iload_n aX8_image_187 rfl ?_
    refine v_iconst aX8_image_188 ?_
    refine v_zast aX8_image_189 hM.p_isKept (by omega) (by decide) (by first | exact Or.inl rfl | exact Or.inr rfl | exact b2i_01 | omega) ?_
    refine v_iconst aX8_image_190 ?_
    refine v_ireturn aX8_image_191 rfl ⟨Nat.le_refl _, Nat.le_refl _⟩ ?_
    obtain ⟨⟨t1, t2, t3, t4, t5, t6, t7, t8, t9⟩, tg, tn⟩ := h
    refine ⟨_, rfl, rfl, fun _ => ⟨rfl, ⟨fun z z0 z6 => ?_, fun k k0 k6 => ?_, ?_, ?_, ?_⟩, fun w hw => ?_, ?_, fun q q1 q2 => ?_⟩, fun q => absurd c6 q⟩
    · rw [upd2_row (by omega), upd2_ap, if_neg (by omega), upd2_ap, if_neg (by omega), upd2_ap, if_neg (by omega), b3 _ (by omega), a2 z z0 z6]; exact t4 z z0 z6
    · obtain ⟨k1, k2, k3, k4, k5⟩ := b2 k k0 k6
      rw [a1 _ (by omega)] at k1 k2 k3 k4 k5
      refine ⟨?_, ?_, ?_, ?_, ?_⟩ <;> rw [upd2_row (by omega), upd2_ap, if_neg (by omega), upd2_ap, if_neg (by omega), upd2_ap, if_neg (by omega)]
      · rw [k1]; exact t5 k k0 k6
      · rw [k2]; exact t8 k k0 k6
      · rw [k3]; exact t6 k k0 k6
      · rw [k4]; exact t7 k k0 k6
      · rw [k5]; exact t9 k k0 k6
    · rw [upd2_row (by omega), upd2_ap, if_neg (by omega), upd2_ap, if_neg (by omega), upd2_same]; exact t1
    · rw [upd2_row (by omega), upd2_ap, if_neg (by omega), upd2_same]; exact t2
    · rw [upd2_row (by omega), upd2_same]; exact t3
    · rw [upd2_row (by omega), upd2_ap, if_neg (by omega), upd2_ap, if_neg (by omega), upd2_ap, if_neg (by omega), b3 _ (by omega), a3 _ (by omega)]
    · rw [upd2_iup, row_same, upd2_row (by omega), upd2_row (by omega), upd2_row (by omega), b1 _ (by omega), a1 _ (by omega)]
    · rw [upd2_row q2, upd2_row q1, upd2_row q1, upd2_row q1, b1 _ q1, a1 _ q1]
  · --
    refine v_bipush (by decide) aX8_image_9 ?_
    refine v_ireturn aX8_image_11 rfl ⟨Nat.le_refl _, Nat.le_refl _⟩ ?_
    exact ⟨_, rfl, rfl, fun q => absurd q c6, fun _ => ⟨rfl, rfl⟩⟩
set_option maxHeartbeats 4000000 in
set_option maxRecDepth 100000 in
theorem l1_X8_restore {i : Int} {μ0 : Mu} {P : Pst} (hM : ModS S m) (hi : 0 ≤ i ∧ i ≤ 1) (hh : ∀ μ : Mu, (∀ q : Nat, q ≠ m + 2 → μ q = μ0 q) → (∀ k : Int, 0 ≤ k → k < 60 → μ (m + 2) k = μ0 (m + 20) (93 * i + k)) → V l G cX8_restore (yX8_restore, 4, (some FieldType.int), 1, 0, 0) P (0, 0) S μ 57 [.ref m, vi i, vi (93 * i), vi 60] []) : ∀ (N : Nat) (k : Int) (μ : Mu), (0 ≤ k ∧ k ≤ 60) → 60 - k < N → (∀ q : Nat, q ≠ m + 2 → μ q = μ0 q) → (∀ j : Int, 0 ≤ j → j < k → μ (m + 2) j = μ0 (m + 20) (93 * i + j)) → V l G cX8_restore (yX8_restore, 4, (some FieldType.int), 1, 0, 0) P (0, 0) S μ 31 [.ref m, vi i, vi (93 * i), vi k] [] := by
  intro N
  induction N with
  | zero => intro k μ h0 h1; omega
  | succ N ih =>
    intro k μ h0 h1 hq hj
    refine v_iload_n aX8_restore_31 rfl ?_
    refine v_bipush (by decide) aX8_restore_32 ?_
    refine v_icmp_ge 57 rfl aX8_restore_34 (by omega) (by omega) (fun c34 => ?_) (fun c34 => ?_)
    · --
      obtain rfl : k = 60 := by omega
      exact hh μ hq hj
    · --
      refine v_aload_n aX8_restore_37 rfl ?_
      refine v_getr aX8_restore_38 fX8_17 hM.p rfl rfl ?_
      refine v_iload_n aX8_restore_41 rfl ?_
      refine v_aload_n aX8_restore_42 rfl ?_
      refine v_getr aX8_restore_43 fX8_73 hM.p rfl rfl ?_
      refine v_iload_n aX8_restore_46 rfl ?_
      refine v_iload_n aX8_restore_47 rfl ?_
      refine v_iadd aX8_restore_48 ?_
      refine v_iald aX8_restore_49 hM.p_image (by omega) (by decide) ?_
      refine v_iast aX8_restore_50 hM.p_book (by omega) (by decide) ?_
      refine v_iinc aX8_restore_51 rfl (by decide) rfl ?_
      refine v_goto 31 rfl aX8_restore_54 ?_
      refine ih (k + 1) _ (by omega) (by omega) (fun q e => ?_) (fun j j0 j1 => ?_)
      · rw [upd2_row e]; exact hq q e
      · by_cases e : j = k
        · subst e
          rw [upd2_same, hq _ (by omega)]
        · rw [upd2_ap, if_neg (by omega)]; exact hj j j0 (by omega)
set_option maxHeartbeats 4000000 in
set_option maxRecDepth 100000 in
theorem l2_X8_restore {i : Int} {μ0 : Mu} {P : Pst} (hM : ModS S m) (hi : 0 ≤ i ∧ i ≤ 1) (hh : ∀ μ : Mu, (∀ q : Nat, q ≠ m + 3 → q ≠ m + 4 → q ≠ m + 5 → q ≠ m + 6 → q ≠ m + 7 → μ q = μ0 q) → (∀ k : Int, 0 ≤ k → k < 6 → μ (m + 3) k = μ0 (m + 20) (93 * i + 60 + k) ∧ μ (m + 4) k = μ0 (m + 20) (93 * i + 66 + k) ∧ μ (m + 5) k = μ0 (m + 20) (93 * i + 72 + k) ∧ μ (m + 6) k = μ0 (m + 20) (93 * i + 78 + k) ∧ μ (m + 7) k = μ0 (m + 20) (93 * i + 84 + k)) → V l G cX8_restore (yX8_restore, 4, (some FieldType.int), 1, 0, 0) P (0, 0) S μ 156 [.ref m, vi i, vi (93 * i), vi 6] []) : ∀ (N : Nat) (k : Int) (μ : Mu), (0 ≤ k ∧ k ≤ 6) → 6 - k < N → (∀ q : Nat, q ≠ m + 3 → q ≠ m + 4 → q ≠ m + 5 → q ≠ m + 6 → q ≠ m + 7 → μ q = μ0 q) → (∀ j : Int, 0 ≤ j → j < k → μ (m + 3) j = μ0 (m + 20) (93 * i + 60 + j) ∧ μ (m + 4) j = μ0 (m + 20) (93 * i + 66 + j) ∧ μ (m + 5) j = μ0 (m + 20) (93 * i + 72 + j) ∧ μ (m + 6) j = μ0 (m + 20) (93 * i + 78 + j) ∧ μ (m + 7) j = μ0 (m + 20) (93 * i + 84 + j)) → V l G cX8_restore (yX8_restore, 4, (some FieldType.int), 1, 0, 0) P (0, 0) S μ 59 [.ref m, vi i, vi (93 * i), vi k] [] := by
  intro N
  induction N with
  | zero => intro k μ h0 h1; omega
  | succ N ih =>
    intro k μ h0 h1 hq hj
    refine v_iload_n aX8_restore_59 rfl ?_
    refine v_bipush (by decide) aX8_restore_60 ?_
    refine v_icmp_ge 156 rfl aX8_restore_62 (by omega) (by omega) (fun c62 => ?_) (fun c62 => ?_)
    · --
      obtain rfl : k = 6 := by omega
      exact hh μ hq hj
    · --
      refine v_aload_n aX8_restore_65 rfl ?_
      refine v_getr aX8_restore_66 fX8_20 hM.p rfl rfl ?_
      refine v_iload_n aX8_restore_69 rfl ?_
      refine v_aload_n aX8_restore_70 rfl ?_
      refine v_getr aX8_restore_71 fX8_73 hM.p rfl rfl ?_
      refine v_iload_n aX8_restore_74 rfl ?_
      refine v_bipush (by decide) aX8_restore_75 ?_
      refine v_iadd aX8_restore_77 ?_
      refine v_iload_n aX8_restore_78 rfl ?_
      refine v_iadd aX8_restore_79 ?_
      refine v_iald aX8_restore_80 hM.p_image (by omega) (by decide) ?_
      refine v_iast aX8_restore_81 hM.p_lifts (by omega) (by decide) ?_
      refine v_aload_n aX8_restore_82 rfl ?_
      refine v_getr aX8_restore_83 fX8_23 hM.p rfl rfl ?_
      refine v_iload_n aX8_restore_86 rfl ?_
      refine v_aload_n aX8_restore_87 rfl ?_
      refine v_getr aX8_restore_88 fX8_73 hM.p rfl rfl ?_
      refine v_iload_n aX8_restore_91 rfl ?_
      refine v_bipush (by decide) aX8_restore_92 ?_
      refine v_iadd aX8_restore_94 ?_
      refine v_iload_n aX8_restore_95 rfl ?_
      refine v_iadd aX8_restore_96 ?_
      refine v_iald aX8_restore_97 hM.p_image (by omega) (by decide) ?_
      rw [upd2_row (by omega)]
      refine v_iast aX8_restore_98 hM.p_tolls (by omega) (by decide) ?_
      refine v_aload_n aX8_restore_99 rfl ?_
      refine v_getr aX8_restore_100 fX8_26 hM.p rfl rfl ?_
      refine v_iload_n aX8_restore_103 rfl ?_
      refine v_aload_n aX8_restore_104 rfl ?_
      refine v_getr aX8_restore_105 fX8_73 hM.p rfl rfl ?_
      refine v_iload_n aX8_restore_108 rfl ?_
      refine v_bipush (by decide) aX8_restore_109 ?_
      refine v_iadd aX8_restore_111 ?_
      refine v_iload_n aX8_restore_112 rfl ?_
      refine v_iadd aX8_restore_113 ?_
      refine v_iald aX8_restore_114 hM.p_image (by omega) (by decide) ?_
      rw [upd2_row (by omega), upd2_row (by omega)]
      refine v_iast aX8_restore_115 hM.p_low (by omega) (by decide) ?_
      refine v_aload_n aX8_restore_116 rfl ?_
      refine v_getr aX8_restore_117 fX8_29 hM.p rfl rfl ?_
      refine v_iload_n aX8_restore_120 rfl ?_
      refine v_aload_n aX8_restore_121 rfl ?_
      refine v_getr aX8_restore_122 fX8_73 hM.p rfl rfl ?_
      refine v_iload_n aX8_restore_125 rfl ?_
      refine v_bipush (by decide) aX8_restore_126 ?_
      refine v_iadd aX8_restore_128 ?_
      refine v_iload_n aX8_restore_129 rfl ?_
      refine v_iadd aX8_restore_130 ?_
      refine v_iald aX8_restore_131 hM.p_image (by omega) (by decide) ?_
      rw [upd2_row (by omega), upd2_row (by omega), upd2_row (by omega)]
      refine v_iast aX8_restore_132 hM.p_high (by omega) (by decide) ?_
      refine v_aload_n aX8_restore_133 rfl ?_
      refine v_getr aX8_restore_134 fX8_32 hM.p rfl rfl ?_
      refine v_iload_n aX8_restore_137 rfl ?_
      refine v_aload_n aX8_restore_138 rfl ?_
      refine v_getr aX8_restore_139 fX8_73 hM.p rfl rfl ?_
      refine v_iload_n aX8_restore_142 rfl ?_
      refine v_bipush (by decide) aX8_restore_143 ?_
      refine v_iadd aX8_restore_145 ?_
      refine v_iload_n aX8_restore_146 rfl ?_
      refine v_iadd aX8_restore_147 ?_
      refine v_iald aX8_restore_148 hM.p_image (by omega) (by decide) ?_
      rw [upd2_row (by omega), upd2_row (by omega), upd2_row (by omega), upd2_row (by omega)]
      refine v_iast aX8_restore_149 hM.p_weights (by omega) (by decide) ?_
      refine v_iinc aX8_restore_150 rfl (by decide) rfl ?_
      refine v_goto 59 rfl aX8_restore_153 ?_
      have e20 : μ (m + 20) = μ0 (m + 20) := hq _ (by omega) (by omega) (by omega) (by omega) (by omega)
      refine ih (k + 1) _ (by omega) (by omega) (fun q e1 e2 e3 e4 e5 => ?_) (fun j j0 j1 => ?_)
      · rw [upd2_row e5, upd2_row e4, upd2_row e3, upd2_row e2, upd2_row e1]; exact hq q e1 e2 e3 e4 e5
      · by_cases e : j = k
        · subst e
          refine ⟨?_, ?_, ?_, ?_, ?_⟩
          · rw [upd2_row (by omega), upd2_row (by omega), upd2_row (by omega), upd2_row (by omega), upd2_same, e20]
          · rw [upd2_row (by omega), upd2_row (by omega), upd2_row (by omega), upd2_same, e20]
          · rw [upd2_row (by omega), upd2_row (by omega), upd2_same, e20]
          · rw [upd2_row (by omega), upd2_same, e20]
          · rw [upd2_same, e20]
        · obtain ⟨j1, j2, j3, j4, j5⟩ := hj j j0 (by omega)
          refine ⟨?_, ?_, ?_, ?_, ?_⟩ <;> rw [upd2_ap, if_neg (by omega), upd2_ap, if_neg (by omega), upd2_ap, if_neg (by omega), upd2_ap, if_neg (by omega), upd2_ap, if_neg (by omega)] <;> assumption
set_option maxHeartbeats 4000000 in
set_option maxRecDepth 100000 in
theorem c_X8_restore {i : Int} (hM : ModS S m) (h : MoAt μ m t g n) (hi : (-2147483648 ≤ i ∧ i < 2147483648)) (hkp : μ (m + 21) i = 0 ∨ μ (m + 21) i = 1) : Ct l G cX8_restore (yX8_restore, 4, (some FieldType.int), 1, 0, 0) [.ref m, vi i] S μ (Re S (fun z μ' => (0 ≤ i ∧ i ≤ 1 → μ (m + 21) i = 1 → z = 1 ∧ (∀ t' : BSt, MiAt (μ (m + 20)) i t' → MoAt μ' m t' g n) ∧ ∀ q : Nat, (q < m ∨ m + 8 ≤ q) → μ' q = μ q) ∧ (0 ≤ i ∧ i ≤ 1 → μ (m + 21) i = 0 → z = -3 ∧ μ' = μ) ∧ (¬ (0 ≤ i ∧ i ≤ 1) → z = -2 ∧ μ' = μ))) := by
  have f0 : μ m 0 = t.1 := h.1.1
  have f3 : μ m 3 = t.2.1 := h.1.2.1
  have f9 : μ m 9 = t.2.2.1 := h.1.2.2.1
  have f1 : μ m 1 = n := h.2.2
  refine Ct.of (by decide) rfl (by simp [vi, Value.category]) (Nat.le_of_ble_eq_true rfl) ?_
  refine v_iload_n aX8_restore_0 rfl ?_
  refine v_iconst aX8_restore_1 ?_
  refine v_iconst aX8_restore_2 ?_
  refine v_cSi (c_X8_in (by omega) (by omega) (by omega)) aX8_restore_3 mX8_in sX8_in lX8_79 rfl rfl (Nat.le_of_ble_eq_true rfl) ⟨Nat.le_of_ble_eq_true rfl, Nat.le_of_ble_eq_true rfl⟩ (Nat.le_of_ble_eq_true rfl) ?_
  refine v_if_ne_b 12 rfl aX8_restore_6 (fun c6 => ?_) (fun c6 => ?_)
  · --
    refine v_aload_n aX8_restore_12 rfl ?_
    refine v_getr aX8_restore_13 fX8_76 hM.p rfl rfl ?_
    refine v_iload_n aX8_restore_16 rfl ?_
    refine v_zald aX8_restore_17 hM.p_isKept (by omega) (by decide) ?_
    refine v_if_ne 24 rfl aX8_restore_18 (by omega) (fun c18 => ?_) (fun c18 => ?_)
    · --
      refine v_bipush (by decide) aX8_restore_24 ?_
      refine v_iload_n aX8_restore_26 rfl ?_
      refine v_imul aX8_restore_27 ?_
      refine v_istore_n aX8_restore_28 (by decide) rfl ?_
      refine v_iconst aX8_restore_29 ?_
      refine v_istore_n aX8_restore_30 (by decide) rfl ?_
      refine l1_X8_restore (μ0 := μ) hM c6 (fun μ1 a1 a2 => ?_) 61 0 _ (by omega) (by omega) (fun _ _ => rfl) (fun j j0 j1 => by omega)
      refine v_iconst aX8_restore_57 ?_
      refine v_istore_n aX8_restore_58 (by decide) rfl ?_
      refine l2_X8_restore (μ0 := μ1) hM c6 (fun μ2 b1 b2 => ?_) 7 0 _ (by omega) (by omega) (fun _ _ _ _ _ _ => rfl) (fun j j0 j1 => by omega)
      have e20 : μ2 (m + 20) = μ (m + 20) := by rw [b1 _ (by omega) (by omega) (by omega) (by omega) (by omega), a1 _ (by omega)]
      have e21 : μ1 (m + 20) = μ (m + 20) := a1 _ (by omega)
      refine v_aload_n aX8_restore_156 rfl ?_
      refine v_aload_n aX8_restore_157 rfl ?_
      refine v_getr aX8_restore_158 fX8_73 hM.p rfl rfl ?_
      refine v_iload_n aX8_restore_161 rfl ?_
      refine v_bipush (by decide) aX8_restore_162 ?_
      refine v_iadd aX8_restore_164 ?_
      refine v_iald aX8_restore_165 hM.p_image (by omega) (by decide) ?_
      rw [e20]
      refine v_pi 0 rfl aX8_restore_166 fX8_7 nf8_0 ok8_0 hM.p rfl rfl ?_
      refine v_aload_n aX8_restore_169 rfl ?_
      refine v_aload_n aX8_restore_170 rfl ?_
      refine v_getr aX8_restore_171 fX8_73 hM.p rfl rfl ?_
      refine v_iload_n aX8_restore_174 rfl ?_
      refine v_bipush (by decide) aX8_restore_175 ?_
      refine v_iadd aX8_restore_177 ?_
      refine v_iald aX8_restore_178 hM.p_image (by omega) (by decide) ?_
      rw [upd2_row (by omega), e20]
      refine v_pi 3 rfl aX8_restore_179 fX8_83 nf8_3 ok8_3 hM.p rfl rfl ?_
      refine v_aload_n aX8_restore_182 rfl ?_
      refine v_aload_n aX8_restore_183 rfl ?_
      refine v_getr aX8_restore_184 fX8_73 hM.p rfl rfl ?_
      refine v_iload_n aX8_restore_187 rfl ?_
      refine v_bipush (by decide) aX8_restore_188 ?_
      refine v_iadd aX8_restore_190 ?_
      refine v_iald aX8_restore_191 hM.p_image (by omega) (by decide) ?_
      rw [upd2_row (by omega), upd2_row (by omega), e20]
      refine v_pi 9 rfl aX8_restore_192 fX8_168 nf8_9 ok8_9 hM.p rfl rfl ?_
      refine v_iconst aX8_restore_195 ?_
      refine v_ireturn aX8_restore_196 rfl ⟨Nat.le_refl _, Nat.le_refl _⟩ ?_
      refine ⟨_, rfl, rfl, fun _ _ => ⟨rfl, fun t' hi' => ?_, fun q hq => ?_⟩, fun _ q => by omega, fun q => absurd c6 q⟩
      · obtain ⟨i1, i2, i3, i4, i5⟩ := hi'
        obtain ⟨-, tg, tn⟩ := h
        refine ⟨⟨?_, ?_, ?_, fun z z0 z6 => ?_, fun k k0 k6 => ?_, fun k k0 k6 => ?_, fun k k0 k6 => ?_, fun k k0 k6 => ?_, fun k k0 k6 => ?_⟩, ?_, ?_⟩
        · simp [upd2_ap]; exact i3
        · simp [upd2_ap]; exact i4
        · simp [upd2_ap]; exact i5
        · rw [upd2_row (by omega), upd2_row (by omega), upd2_row (by omega), b1 _ (by omega) (by omega) (by omega) (by omega) (by omega), a2 z z0 z6]; exact i1 z z0 z6
        · rw [upd2_row (by omega), upd2_row (by omega), upd2_row (by omega), (b2 k k0 k6).1, e21]; exact (i2 k k0 k6).1
        · rw [upd2_row (by omega), upd2_row (by omega), upd2_row (by omega), (b2 k k0 k6).2.2.1, e21]; exact (i2 k k0 k6).2.2.1
        · rw [upd2_row (by omega), upd2_row (by omega), upd2_row (by omega), (b2 k k0 k6).2.2.2.1, e21]; exact (i2 k k0 k6).2.2.2.1
        · rw [upd2_row (by omega), upd2_row (by omega), upd2_row (by omega), (b2 k k0 k6).2.1, e21]; exact (i2 k k0 k6).2.1
        · rw [upd2_row (by omega), upd2_row (by omega), upd2_row (by omega), (b2 k k0 k6).2.2.2.2, e21]; exact (i2 k k0 k6).2.2.2.2
        · rw [upd2_row (by omega), upd2_row (by omega), upd2_row (by omega), b1 _ (by omega) (by omega) (by omega) (by omega) (by omega), a1 _ (by omega)]; exact tg
        · simp [upd2_ap]
          rw [b1 _ (by omega) (by omega) (by omega) (by omega) (by omega), a1 _ (by omega)]; exact tn
      · rw [upd2_row (by omega), upd2_row (by omega), upd2_row (by omega), b1 _ (by omega) (by omega) (by omega) (by omega) (by omega), a1 _ (by omega)]
    · --
      refine v_bipush (by decide) aX8_restore_21 ?_
      refine v_ireturn aX8_restore_23 rfl ⟨Nat.le_refl _, Nat.le_refl _⟩ ?_
      exact ⟨_, rfl, rfl, fun _ q => by omega, fun _ _ => ⟨rfl, rfl⟩, fun q => absurd c6 q⟩
  · --
    refine v_bipush (by decide) aX8_restore_9 ?_
    refine v_ireturn aX8_restore_11 rfl ⟨Nat.le_refl _, Nat.le_refl _⟩ ?_
    exact ⟨_, rfl, rfl, fun q => absurd q c6, fun q => absurd q c6, fun _ => ⟨rfl, rfl⟩⟩
end MOD2
