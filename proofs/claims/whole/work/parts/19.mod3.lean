/-! the model: line -/
section MOD3
variable {l : Launch} {G : Glb} {S : Sh} {μ : Mu} {m : Nat} {t : BSt} {g : Int → Int} {n : Int}
/-- the signs between the sacks -/
def SgnOk (g : Int → Int) (n : Int) : Prop := ∀ i : Int, 0 ≤ i → i < n → i % 2 = 1 → g i = 43 ∨ g i = 45 ∨ g i = 61
/-- the model after a part of a line -/
def MIn (μ0 μ : Mu) (m : Nat) (u : LSt) : Prop := (∀ z : Int, 0 ≤ z → z < 60 → μ (m + 2) z = u.1 z) ∧ Eq6 (μ (m + 3)) u.2.1 ∧ μ m = iup (μ0 m) 3 u.2.2 ∧ ∀ q : Nat, q ≠ m → q ≠ m + 2 → q ≠ m + 3 → μ q = μ0 q
set_option maxHeartbeats 4000000 in
set_option maxRecDepth 100000 in
theorem l_X8_line {P : Pst} {μ0 : Mu} (hM : ModS S m) (hg : LineOk (μ0 (m + 1)) (μ0 m 1)) (hs : SgnOk (μ0 (m + 1)) (μ0 m 1)) : ∀ (N : Nat) (i : Int) (μ : Mu) (u : LSt) (L : List Value), (2 ≤ i ∧ i ≤ μ0 m 1 + 1 ∧ i % 2 = 0) → μ0 m 1 - i < N → (0 ≤ u.2.2 ∧ u.2.2 + (μ0 m 1 - i + 1) / 2 ≤ 12) → MIn μ0 μ m u → (L = [.ref m, vi i] ∨ ∃ a b, L = [.ref m, vi i, vi a, vi b]) → (∀ μ L, MIn μ0 μ m (lnd (μ0 (m + 1)) (μ0 m 1) N i u) → V l G cX8_line (yX8_line, 4, (some FieldType.int), 3, 0, 0) P (0, 0) S μ 217 (.ref m :: L) []) → V l G cX8_line (yX8_line, 4, (some FieldType.int), 3, 0, 0) P (0, 0) S μ 49 L [] := by
  intro N
  induction N with
  | zero =>
    intro i μ u L h0 h1 hc hw hL hh
    obtain ⟨w1, w2, w3, w4⟩ := hw
    obtain ⟨⟨g1, g2, g3⟩, g4, g5⟩ := id hg
    have hpd : μ (m + 1) = μ0 (m + 1) := w4 _ (by omega) (by omega) (by omega)
    have hm1 : μ m 1 = μ0 m 1 := by rw [w3, iup_ne (by decide)]
    have hm3 : μ m 3 = u.2.2 := by rw [w3, iup_same]
    have hL2 : V l G cX8_line (yX8_line, 4, (some FieldType.int), 3, 0, 0) P (0, 0) S μ 49 [.ref m, vi i] [] := by
      refine v_iload_n aX8_line_49 rfl ?_
      refine v_aload_n aX8_line_50 rfl ?_
      refine v_gi 1 rfl aX8_line_51 fX8_86 hM.p rfl rfl ?_
      rw [hm1]
      refine v_icmp_ge 217 rfl aX8_line_54 (by omega) (by omega) (fun c54 => ?_) (fun c54 => ?_)
      · --
        exact hh μ _ ⟨w1, w2, w3, w4⟩
      · exact absurd (by omega) c54
    rcases hL with rfl | ⟨a, b, rfl⟩
    · exact hL2
    · exact v_take 2 rfl hL2
  | succ N ih =>
    intro i μ u L h0 h1 hc hw hL hh
    unfold lnd at hh
    obtain ⟨w1, w2, w3, w4⟩ := hw
    obtain ⟨⟨g1, g2, g3⟩, g4, g5⟩ := id hg
    have hpd : μ (m + 1) = μ0 (m + 1) := w4 _ (by omega) (by omega) (by omega)
    have hm1 : μ m 1 = μ0 m 1 := by rw [w3, iup_ne (by decide)]
    have hm3 : μ m 3 = u.2.2 := by rw [w3, iup_same]
    have q0 : i < μ0 m 1 → 97 ≤ μ0 (m + 1) i ∧ μ0 (m + 1) i < 103 := fun h => g4 i (by omega) h (by omega)
    have q2 : i < μ0 m 1 → 97 ≤ μ0 (m + 1) (i - 2) ∧ μ0 (m + 1) (i - 2) < 103 := fun h => g4 (i - 2) (by omega) (by omega) (by omega)
    have hL2 : V l G cX8_line (yX8_line, 4, (some FieldType.int), 3, 0, 0) P (0, 0) S μ 49 [.ref m, vi i] [] := by
      clear hL
      refine v_iload_n aX8_line_49 rfl ?_
      refine v_aload_n aX8_line_50 rfl ?_
      refine v_gi 1 rfl aX8_line_51 fX8_86 hM.p rfl rfl ?_
      rw [hm1]
      refine v_icmp_ge 217 rfl aX8_line_54 (by omega) (by omega) (fun c54 => ?_) (fun c54 => ?_)
      · --
        rw [if_neg (by omega)] at hh
        exact hh μ _ ⟨w1, w2, w3, w4⟩
      · --
        have q0 := q0 (by omega)
        have q2 := q2 (by omega)
        have q5 := g5 (i - 1) (by omega) (by omega)
        have q7 := hs (i - 1) (by omega) (by omega) (by omega)
        have hu := hc.2
        refine v_aload_n aX8_line_57 rfl ?_
        refine v_getr aX8_line_58 fX8_13 hM.p rfl rfl ?_
        refine v_iload_n aX8_line_61 rfl ?_
        refine v_iald aX8_line_62 hM.p_pad (by omega) (by decide) ?_
        rw [hpd]
        refine v_bipush (by decide) aX8_line_63 ?_
        refine v_isub aX8_line_65 ?_
        refine v_istore_n aX8_line_66 (by decide) rfl ?_
        refine v_aload_n aX8_line_67 rfl ?_
        refine v_getr aX8_line_68 fX8_13 hM.p rfl rfl ?_
        refine v_iload_n aX8_line_71 rfl ?_
        refine v_iconst aX8_line_72 ?_
        refine v_isub aX8_line_73 ?_
        refine v_iald aX8_line_74 hM.p_pad (by omega) (by decide) ?_
        rw [hpd]
        refine v_bipush (by decide) aX8_line_75 ?_
        refine v_isub aX8_line_77 ?_
        refine v_istore_n aX8_line_78 (by decide) rfl ?_
        refine v_aload_n aX8_line_79 rfl ?_
        refine v_getr aX8_line_80 fX8_20 hM.p rfl rfl ?_
        refine v_iload_n aX8_line_83 rfl ?_
        refine v_dup2 rfl rfl aX8_line_84 ?_
        refine v_iald aX8_line_85 hM.p_lifts (by omega) (by decide) ?_
        refine v_iconst aX8_line_86 ?_
        refine v_iadd aX8_line_87 ?_
        refine v_iast aX8_line_88 hM.p_lifts (by omega) (by decide) ?_
        refine v_aload_n aX8_line_89 rfl ?_
        refine v_getr aX8_line_90 fX8_17 hM.p rfl rfl ?_
        refine v_iconst aX8_line_93 ?_
        refine v_aload_n aX8_line_94 rfl ?_
        refine v_gi 3 rfl aX8_line_95 fX8_83 hM.p rfl rfl ?_
        rw [upd2_row (by omega), hm3]
        refine v_imul aX8_line_98 ?_
        refine v_iload_n aX8_line_99 rfl ?_
        refine v_iast aX8_line_100 hM.p_book (by omega) (by decide) ?_
        refine v_aload_n aX8_line_101 rfl ?_
        refine v_getr aX8_line_102 fX8_17 hM.p rfl rfl ?_
        refine v_iconst aX8_line_105 ?_
        refine v_aload_n aX8_line_106 rfl ?_
        refine v_gi 3 rfl aX8_line_107 fX8_83 hM.p rfl rfl ?_
        rw [upd2_row (by omega), upd2_row (by omega), hm3]
        refine v_imul aX8_line_110 ?_
        refine v_iconst aX8_line_111 ?_
        refine v_iadd aX8_line_112 ?_
        refine v_iload_n aX8_line_113 rfl ?_
        refine v_iast aX8_line_114 hM.p_book (by omega) (by decide) ?_
        refine v_aload_n aX8_line_115 rfl ?_
        refine v_getr aX8_line_116 fX8_17 hM.p rfl rfl ?_
        refine v_iconst aX8_line_119 ?_
        refine v_aload_n aX8_line_120 rfl ?_
        refine v_gi 3 rfl aX8_line_121 fX8_83 hM.p rfl rfl ?_
        rw [upd2_row (by omega), upd2_row (by omega), upd2_row (by omega), hm3]
        refine v_imul aX8_line_124 ?_
        refine v_iconst aX8_line_125 ?_
        refine v_iadd aX8_line_126 ?_
        refine v_aload_n aX8_line_127 rfl ?_
        refine v_getr aX8_line_128 fX8_13 hM.p rfl rfl ?_
        refine v_iload_n aX8_line_131 rfl ?_
        refine v_iconst aX8_line_132 ?_
        refine v_isub aX8_line_133 ?_
        refine v_iald aX8_line_134 hM.p_pad (by omega) (by decide) ?_
        rw [upd2_row (by omega), upd2_row (by omega), upd2_row (by omega), hpd]
        refine v_bipush (by decide) aX8_line_135 ?_
        refine v_icmp_ne 144 rfl aX8_line_137 (by omega) (by omega) (fun c137 => ?_) (fun c137 => ?_)
        · --
          refine v_aload_n aX8_line_144 rfl ?_
          refine v_getr aX8_line_145 fX8_13 hM.p rfl rfl ?_
          refine v_iload_n aX8_line_148 rfl ?_
          refine v_iconst aX8_line_149 ?_
          refine v_isub aX8_line_150 ?_
          refine v_iald aX8_line_151 hM.p_pad (by omega) (by decide) ?_
          rw [upd2_row (by omega), upd2_row (by omega), upd2_row (by omega), hpd]
          refine v_bipush (by decide) aX8_line_152 ?_
          refine v_icmp_ne 161 rfl aX8_line_154 (by omega) (by omega) (fun c154 => ?_) (fun c154 => ?_)
          · --
            refine v_iconst aX8_line_161 ?_
            refine v_top (w := how (μ0 (m + 1) (i - 1))) (by unfold how; first | rw [if_pos (by omega)] | rw [if_neg (by omega), if_pos (by omega)] | rw [if_neg (by omega), if_neg (by omega)]) ?_
            refine v_iast aX8_line_162 hM.p_book (by omega) (by decide) ?_
            refine v_aload_n aX8_line_163 rfl ?_
            refine v_getr aX8_line_164 fX8_17 hM.p rfl rfl ?_
            refine v_iconst aX8_line_167 ?_
            refine v_aload_n aX8_line_168 rfl ?_
            refine v_gi 3 rfl aX8_line_169 fX8_83 hM.p rfl rfl ?_
            rw [upd2_row (by omega), upd2_row (by omega), upd2_row (by omega), upd2_row (by omega), hm3]
            refine v_imul aX8_line_172 ?_
            refine v_iconst aX8_line_173 ?_
            refine v_iadd aX8_line_174 ?_
            refine v_aload_n aX8_line_175 rfl ?_
            refine v_getr aX8_line_176 fX8_20 hM.p rfl rfl ?_
            refine v_iload_n aX8_line_179 rfl ?_
            refine v_iald aX8_line_180 hM.p_lifts (by omega) (by decide) ?_
            refine v_top (w := iup (μ (m + 3)) (μ0 (m + 1) i - 97) (μ (m + 3) (μ0 (m + 1) i - 97) + 1) (μ0 (m + 1) i - 97)) (by rw [upd2_row (by omega), upd2_row (by omega), upd2_row (by omega), upd2_iup, row_same]) ?_
            refine v_iast aX8_line_181 hM.p_book (by omega) (by decide) ?_
            refine v_aload_n aX8_line_182 rfl ?_
            refine v_getr aX8_line_183 fX8_17 hM.p rfl rfl ?_
            refine v_iconst aX8_line_186 ?_
            refine v_aload_n aX8_line_187 rfl ?_
            refine v_gi 3 rfl aX8_line_188 fX8_83 hM.p rfl rfl ?_
            rw [upd2_row (by omega), upd2_row (by omega), upd2_row (by omega), upd2_row (by omega), upd2_row (by omega), hm3]
            refine v_imul aX8_line_191 ?_
            refine v_iconst aX8_line_192 ?_
            refine v_iadd aX8_line_193 ?_
            refine v_aload_n aX8_line_194 rfl ?_
            refine v_getr aX8_line_195 fX8_20 hM.p rfl rfl ?_
            refine v_iload_n aX8_line_198 rfl ?_
            refine v_iald aX8_line_199 hM.p_lifts (by omega) (by decide) ?_
            refine v_top (w := iup (μ (m + 3)) (μ0 (m + 1) i - 97) (μ (m + 3) (μ0 (m + 1) i - 97) + 1) (μ0 (m + 1) (i - 2) - 97)) (by rw [upd2_row (by omega), upd2_row (by omega), upd2_row (by omega), upd2_row (by omega), upd2_iup, row_same]) ?_
            refine v_iast aX8_line_200 hM.p_book (by omega) (by decide) ?_
            refine v_aload_n aX8_line_201 rfl ?_
            refine v_dup rfl aX8_line_202 ?_
            refine v_gi 3 rfl aX8_line_203 fX8_83 hM.p rfl rfl ?_
            rw [upd2_row (by omega), upd2_row (by omega), upd2_row (by omega), upd2_row (by omega), upd2_row (by omega), upd2_row (by omega), hm3]
            refine v_iconst aX8_line_206 ?_
            refine v_iadd aX8_line_207 ?_
            refine v_pi 3 rfl aX8_line_208 fX8_83 nf8_3 ok8_3 hM.p rfl rfl ?_
            refine v_iinc aX8_line_211 rfl (by decide) rfl ?_
            refine v_goto 49 rfl aX8_line_214 ?_
            have e14 : Eq6 (upd2 μ (m + 3) (μ0 (m + 1) i - 97) (μ (m + 3) (μ0 (m + 1) i - 97) + 1) (m + 3)) (iup u.2.1 (μ0 (m + 1) i - 97) (u.2.1 (μ0 (m + 1) i - 97) + 1)) := by
              rw [upd2_iup, row_same]
              exact iup_eq6 w2 (by rw [w2 _ (by omega) (by omega)])
            have e15 : Eq6 (iup (μ (m + 3)) (μ0 (m + 1) i - 97) (μ (m + 3) (μ0 (m + 1) i - 97) + 1)) (iup u.2.1 (μ0 (m + 1) i - 97) (u.2.1 (μ0 (m + 1) i - 97) + 1)) := iup_eq6 w2 (by rw [w2 _ (by omega) (by omega)])
            refine ih (i + 2) _ (lstep (μ0 (m + 1)) i u) _ (by omega) (by omega) (by show 0 ≤ u.2.2 + 1 ∧ u.2.2 + 1 + _ ≤ 12; omega) ⟨fun z z0 z6 => ?_, ?_, ?_, fun q q1 q2 q3 => ?_⟩ (Or.inr ⟨_, _, rfl⟩) (by rw [if_pos (by omega)] at hh; exact hh)
            · show _ = ladd u.1 (iup u.2.1 (μ0 (m + 1) i - 97) (u.2.1 (μ0 (m + 1) i - 97) + 1)) u.2.2 (μ0 (m + 1) i - 97) (μ0 (m + 1) (i - 2) - 97) (how (μ0 (m + 1) (i - 1))) z
              unfold ladd
              rw [upd2_row (by omega)]
              by_cases z4 : z = 5 * u.2.2 + 4
              · subst z4
                rw [upd2_same, if_neg (by omega), if_neg (by omega), if_neg (by omega), if_neg (by omega), if_pos rfl]
                exact e15 _ (by omega) (by omega)
              · rw [upd2_ap, if_neg (by omega)]
                by_cases z3 : z = 5 * u.2.2 + 3
                · subst z3
                  rw [upd2_same, if_neg (by omega), if_neg (by omega), if_neg (by omega), if_pos rfl]
                  exact e15 _ (by omega) (by omega)
                · rw [upd2_ap, if_neg (by omega)]
                  by_cases z2 : z = 5 * u.2.2 + 2
                  · subst z2
                    rw [upd2_same, if_neg (by omega), if_neg (by omega), if_pos rfl]
                  · rw [upd2_ap, if_neg (by omega)]
                    by_cases z1 : z = 5 * u.2.2 + 1
                    · subst z1
                      rw [upd2_same, if_neg (by omega), if_pos rfl]
                    · rw [upd2_ap, if_neg (by omega)]
                      by_cases z00 : z = 5 * u.2.2
                      · subst z00
                        rw [upd2_same, if_pos rfl]
                      · rw [upd2_ap, if_neg (by omega), upd2_row (by omega), if_neg z00, if_neg z1, if_neg z2, if_neg z3, if_neg z4]
                        exact w1 z z0 z6
            · rw [upd2_row (by omega), upd2_row (by omega), upd2_row (by omega), upd2_row (by omega), upd2_row (by omega), upd2_row (by omega)]; exact e14
            · rw [upd2_iup, row_same, upd2_row (by omega), upd2_row (by omega), upd2_row (by omega), upd2_row (by omega), upd2_row (by omega), upd2_row (by omega), w3, iup_iup]; rfl
            · rw [upd2_row q1, upd2_row q2, upd2_row q2, upd2_row q2, upd2_row q2, upd2_row q2, upd2_row q3]; exact w4 q q1 q2 q3
          · --
            refine v_iconst aX8_line_157 ?_
            refine v_goto 162 rfl aX8_line_158 ?_
            refine v_top (w := how (μ0 (m + 1) (i - 1))) (by unfold how; first | rw [if_pos (by omega)] | rw [if_neg (by omega), if_pos (by omega)] | rw [if_neg (by omega), if_neg (by omega)]) ?_
            refine v_iast aX8_line_162 hM.p_book (by omega) (by decide) ?_
            refine v_aload_n aX8_line_163 rfl ?_
            refine v_getr aX8_line_164 fX8_17 hM.p rfl rfl ?_
            refine v_iconst aX8_line_167 ?_
            refine v_aload_n aX8_line_168 rfl ?_
            refine v_gi 3 rfl aX8_line_169 fX8_83 hM.p rfl rfl ?_
            rw [upd2_row (by omega), upd2_row (by omega), upd2_row (by omega), upd2_row (by omega), hm3]
            refine v_imul aX8_line_172 ?_
            refine v_iconst aX8_line_173 ?_
            refine v_iadd aX8_line_174 ?_
            refine v_aload_n aX8_line_175 rfl ?_
            refine v_getr aX8_line_176 fX8_20 hM.p rfl rfl ?_
            refine v_iload_n aX8_line_179 rfl ?_
            refine v_iald aX8_line_180 hM.p_lifts (by omega) (by decide) ?_
            refine v_top (w := iup (μ (m + 3)) (μ0 (m + 1) i - 97) (μ (m + 3) (μ0 (m + 1) i - 97) + 1) (μ0 (m + 1) i - 97)) (by rw [upd2_row (by omega), upd2_row (by omega), upd2_row (by omega), upd2_iup, row_same]) ?_
            refine v_iast aX8_line_181 hM.p_book (by omega) (by decide) ?_
            refine v_aload_n aX8_line_182 rfl ?_
            refine v_getr aX8_line_183 fX8_17 hM.p rfl rfl ?_
            refine v_iconst aX8_line_186 ?_
            refine v_aload_n aX8_line_187 rfl ?_
            refine v_gi 3 rfl aX8_line_188 fX8_83 hM.p rfl rfl ?_
            rw [upd2_row (by omega), upd2_row (by omega), upd2_row (by omega), upd2_row (by omega), upd2_row (by omega), hm3]
            refine v_imul aX8_line_191 ?_
            refine v_iconst aX8_line_192 ?_
            refine v_iadd aX8_line_193 ?_
            refine v_aload_n aX8_line_194 rfl ?_
            refine v_getr aX8_line_195 fX8_20 hM.p rfl rfl ?_
            refine v_iload_n aX8_line_198 rfl ?_
            refine v_iald aX8_line_199 hM.p_lifts (by omega) (by decide) ?_
            refine v_top (w := iup (μ (m + 3)) (μ0 (m + 1) i - 97) (μ (m + 3) (μ0 (m + 1) i - 97) + 1) (μ0 (m + 1) (i - 2) - 97)) (by rw [upd2_row (by omega), upd2_row (by omega), upd2_row (by omega), upd2_row (by omega), upd2_iup, row_same]) ?_
            refine v_iast aX8_line_200 hM.p_book (by omega) (by decide) ?_
            refine v_aload_n aX8_line_201 rfl ?_
            refine v_dup rfl aX8_line_202 ?_
            refine v_gi 3 rfl aX8_line_203 fX8_83 hM.p rfl rfl ?_
            rw [upd2_row (by omega), upd2_row (by omega), upd2_row (by omega), upd2_row (by omega), upd2_row (by omega), upd2_row (by omega), hm3]
            refine v_iconst aX8_line_206 ?_
            refine v_iadd aX8_line_207 ?_
            refine v_pi 3 rfl aX8_line_208 fX8_83 nf8_3 ok8_3 hM.p rfl rfl ?_
            refine v_iinc aX8_line_211 rfl (by decide) rfl ?_
            refine v_goto 49 rfl aX8_line_214 ?_
            have e14 : Eq6 (upd2 μ (m + 3) (μ0 (m + 1) i - 97) (μ (m + 3) (μ0 (m + 1) i - 97) + 1) (m + 3)) (iup u.2.1 (μ0 (m + 1) i - 97) (u.2.1 (μ0 (m + 1) i - 97) + 1)) := by
              rw [upd2_iup, row_same]
              exact iup_eq6 w2 (by rw [w2 _ (by omega) (by omega)])
            have e15 : Eq6 (iup (μ (m + 3)) (μ0 (m + 1) i - 97) (μ (m + 3) (μ0 (m + 1) i - 97) + 1)) (iup u.2.1 (μ0 (m + 1) i - 97) (u.2.1 (μ0 (m + 1) i - 97) + 1)) := iup_eq6 w2 (by rw [w2 _ (by omega) (by omega)])
            refine ih (i + 2) _ (lstep (μ0 (m + 1)) i u) _ (by omega) (by omega) (by show 0 ≤ u.2.2 + 1 ∧ u.2.2 + 1 + _ ≤ 12; omega) ⟨fun z z0 z6 => ?_, ?_, ?_, fun q q1 q2 q3 => ?_⟩ (Or.inr ⟨_, _, rfl⟩) (by rw [if_pos (by omega)] at hh; exact hh)
            · show _ = ladd u.1 (iup u.2.1 (μ0 (m + 1) i - 97) (u.2.1 (μ0 (m + 1) i - 97) + 1)) u.2.2 (μ0 (m + 1) i - 97) (μ0 (m + 1) (i - 2) - 97) (how (μ0 (m + 1) (i - 1))) z
              unfold ladd
              rw [upd2_row (by omega)]
              by_cases z4 : z = 5 * u.2.2 + 4
              · subst z4
                rw [upd2_same, if_neg (by omega), if_neg (by omega), if_neg (by omega), if_neg (by omega), if_pos rfl]
                exact e15 _ (by omega) (by omega)
              · rw [upd2_ap, if_neg (by omega)]
                by_cases z3 : z = 5 * u.2.2 + 3
                · subst z3
                  rw [upd2_same, if_neg (by omega), if_neg (by omega), if_neg (by omega), if_pos rfl]
                  exact e15 _ (by omega) (by omega)
                · rw [upd2_ap, if_neg (by omega)]
                  by_cases z2 : z = 5 * u.2.2 + 2
                  · subst z2
                    rw [upd2_same, if_neg (by omega), if_neg (by omega), if_pos rfl]
                  · rw [upd2_ap, if_neg (by omega)]
                    by_cases z1 : z = 5 * u.2.2 + 1
                    · subst z1
                      rw [upd2_same, if_neg (by omega), if_pos rfl]
                    · rw [upd2_ap, if_neg (by omega)]
                      by_cases z00 : z = 5 * u.2.2
                      · subst z00
                        rw [upd2_same, if_pos rfl]
                      · rw [upd2_ap, if_neg (by omega), upd2_row (by omega), if_neg z00, if_neg z1, if_neg z2, if_neg z3, if_neg z4]
                        exact w1 z z0 z6
            · rw [upd2_row (by omega), upd2_row (by omega), upd2_row (by omega), upd2_row (by omega), upd2_row (by omega), upd2_row (by omega)]; exact e14
            · rw [upd2_iup, row_same, upd2_row (by omega), upd2_row (by omega), upd2_row (by omega), upd2_row (by omega), upd2_row (by omega), upd2_row (by omega), w3, iup_iup]; rfl
            · rw [upd2_row q1, upd2_row q2, upd2_row q2, upd2_row q2, upd2_row q2, upd2_row q2, upd2_row q3]; exact w4 q q1 q2 q3
        · --
          refine v_iconst aX8_line_140 ?_
          refine v_goto 162 rfl aX8_line_141 ?_
          refine v_top (w := how (μ0 (m + 1) (i - 1))) (by unfold how; first | rw [if_pos (by omega)] | rw [if_neg (by omega), if_pos (by omega)] | rw [if_neg (by omega), if_neg (by omega)]) ?_
          refine v_iast aX8_line_162 hM.p_book (by omega) (by decide) ?_
          refine v_aload_n aX8_line_163 rfl ?_
          refine v_getr aX8_line_164 fX8_17 hM.p rfl rfl ?_
          refine v_iconst aX8_line_167 ?_
          refine v_aload_n aX8_line_168 rfl ?_
          refine v_gi 3 rfl aX8_line_169 fX8_83 hM.p rfl rfl ?_
          rw [upd2_row (by omega), upd2_row (by omega), upd2_row (by omega), upd2_row (by omega), hm3]
          refine v_imul aX8_line_172 ?_
          refine v_iconst aX8_line_173 ?_
          refine v_iadd aX8_line_174 ?_
          refine v_aload_n aX8_line_175 rfl ?_
          refine v_getr aX8_line_176 fX8_20 hM.p rfl rfl ?_
          refine v_iload_n aX8_line_179 rfl ?_
          refine v_iald aX8_line_180 hM.p_lifts (by omega) (by decide) ?_
          refine v_top (w := iup (μ (m + 3)) (μ0 (m + 1) i - 97) (μ (m + 3) (μ0 (m + 1) i - 97) + 1) (μ0 (m + 1) i - 97)) (by rw [upd2_row (by omega), upd2_row (by omega), upd2_row (by omega), upd2_iup, row_same]) ?_
          refine v_iast aX8_line_181 hM.p_book (by omega) (by decide) ?_
          refine v_aload_n aX8_line_182 rfl ?_
          refine v_getr aX8_line_183 fX8_17 hM.p rfl rfl ?_
          refine v_iconst aX8_line_186 ?_
          refine v_aload_n aX8_line_187 rfl ?_
          refine v_gi 3 rfl aX8_line_188 fX8_83 hM.p rfl rfl ?_
          rw [upd2_row (by omega), upd2_row (by omega), upd2_row (by omega), upd2_row (by omega), upd2_row (by omega), hm3]
          refine v_imul aX8_line_191 ?_
          refine v_iconst aX8_line_192 ?_
          refine v_iadd aX8_line_193 ?_
          refine v_aload_n aX8_line_194 rfl ?_
          refine v_getr aX8_line_195 fX8_20 hM.p rfl rfl ?_
          refine v_iload_n aX8_line_198 rfl ?_
          refine v_iald aX8_line_199 hM.p_lifts (by omega) (by decide) ?_
          refine v_top (w := iup (μ (m + 3)) (μ0 (m + 1) i - 97) (μ (m + 3) (μ0 (m + 1) i - 97) + 1) (μ0 (m + 1) (i - 2) - 97)) (by rw [upd2_row (by omega), upd2_row (by omega), upd2_row (by omega), upd2_row (by omega), upd2_iup, row_same]) ?_
          refine v_iast aX8_line_200 hM.p_book (by omega) (by decide) ?_
          refine v_aload_n aX8_line_201 rfl ?_
          refine v_dup rfl aX8_line_202 ?_
          refine v_gi 3 rfl aX8_line_203 fX8_83 hM.p rfl rfl ?_
          rw [upd2_row (by omega), upd2_row (by omega), upd2_row (by omega), upd2_row (by omega), upd2_row (by omega), upd2_row (by omega), hm3]
          refine v_iconst aX8_line_206 ?_
          refine v_iadd aX8_line_207 ?_
          refine v_pi 3 rfl aX8_line_208 fX8_83 nf8_3 ok8_3 hM.p rfl rfl ?_
          refine v_iinc aX8_line_211 rfl (by decide) rfl ?_
          refine v_goto 49 rfl aX8_line_214 ?_
          have e14 : Eq6 (upd2 μ (m + 3) (μ0 (m + 1) i - 97) (μ (m + 3) (μ0 (m + 1) i - 97) + 1) (m + 3)) (iup u.2.1 (μ0 (m + 1) i - 97) (u.2.1 (μ0 (m + 1) i - 97) + 1)) := by
            rw [upd2_iup, row_same]
            exact iup_eq6 w2 (by rw [w2 _ (by omega) (by omega)])
          have e15 : Eq6 (iup (μ (m + 3)) (μ0 (m + 1) i - 97) (μ (m + 3) (μ0 (m + 1) i - 97) + 1)) (iup u.2.1 (μ0 (m + 1) i - 97) (u.2.1 (μ0 (m + 1) i - 97) + 1)) := iup_eq6 w2 (by rw [w2 _ (by omega) (by omega)])
          refine ih (i + 2) _ (lstep (μ0 (m + 1)) i u) _ (by omega) (by omega) (by show 0 ≤ u.2.2 + 1 ∧ u.2.2 + 1 + _ ≤ 12; omega) ⟨fun z z0 z6 => ?_, ?_, ?_, fun q q1 q2 q3 => ?_⟩ (Or.inr ⟨_, _, rfl⟩) (by rw [if_pos (by omega)] at hh; exact hh)
          · show _ = ladd u.1 (iup u.2.1 (μ0 (m + 1) i - 97) (u.2.1 (μ0 (m + 1) i - 97) + 1)) u.2.2 (μ0 (m + 1) i - 97) (μ0 (m + 1) (i - 2) - 97) (how (μ0 (m + 1) (i - 1))) z
            unfold ladd
            rw [upd2_row (by omega)]
            by_cases z4 : z = 5 * u.2.2 + 4
            · subst z4
              rw [upd2_same, if_neg (by omega), if_neg (by omega), if_neg (by omega), if_neg (by omega), if_pos rfl]
              exact e15 _ (by omega) (by omega)
            · rw [upd2_ap, if_neg (by omega)]
              by_cases z3 : z = 5 * u.2.2 + 3
              · subst z3
                rw [upd2_same, if_neg (by omega), if_neg (by omega), if_neg (by omega), if_pos rfl]
                exact e15 _ (by omega) (by omega)
              · rw [upd2_ap, if_neg (by omega)]
                by_cases z2 : z = 5 * u.2.2 + 2
                · subst z2
                  rw [upd2_same, if_neg (by omega), if_neg (by omega), if_pos rfl]
                · rw [upd2_ap, if_neg (by omega)]
                  by_cases z1 : z = 5 * u.2.2 + 1
                  · subst z1
                    rw [upd2_same, if_neg (by omega), if_pos rfl]
                  · rw [upd2_ap, if_neg (by omega)]
                    by_cases z00 : z = 5 * u.2.2
                    · subst z00
                      rw [upd2_same, if_pos rfl]
                    · rw [upd2_ap, if_neg (by omega), upd2_row (by omega), if_neg z00, if_neg z1, if_neg z2, if_neg z3, if_neg z4]
                      exact w1 z z0 z6
          · rw [upd2_row (by omega), upd2_row (by omega), upd2_row (by omega), upd2_row (by omega), upd2_row (by omega), upd2_row (by omega)]; exact e14
          · rw [upd2_iup, row_same, upd2_row (by omega), upd2_row (by omega), upd2_row (by omega), upd2_row (by omega), upd2_row (by omega), upd2_row (by omega), w3, iup_iup]; rfl
          · rw [upd2_row q1, upd2_row q2, upd2_row q2, upd2_row q2, upd2_row q2, upd2_row q2, upd2_row q3]; exact w4 q q1 q2 q3
    rcases hL with rfl | ⟨a, b, rfl⟩
    · exact hL2
    · exact v_take 2 rfl hL2
set_option maxHeartbeats 4000000 in
set_option maxRecDepth 100000 in
theorem c_X8_line (hM : ModS S m) (h : MoAt μ m t g n) (ht : 2 ≤ t.1 ∧ t.1 ≤ 6) (hc : 0 ≤ t.2.1 ∧ t.2.1 ≤ 12) (hp : PadOk g n) (hF : ¬ 0 ≤ sp_fault t g n → LineOk g n ∧ SgnOk g n) (hr : -2147483648 ≤ sp_fault t g n ∧ sp_fault t g n < 2147483648) : Ct l G cX8_line (yX8_line, 4, (some FieldType.int), 3, 0, 0) [.ref m] S μ ((Re S (fun z μ' => z = (sp_line t g n).1 ∧ MoAt μ' m (sp_line t g n).2.1 g (sp_line t g n).2.2 ∧ Out μ μ' m 20))) := by
  have f3 : μ m 3 = t.2.1 := h.1.2.1
  have f1 : μ m 1 = n := h.2.2
  have fg : μ (m + 1) = g := h.2.1
  obtain ⟨hn, hgr⟩ := id hp
  refine Ct.of (by decide) rfl (by simp [vi, Value.category]) (Nat.le_of_ble_eq_true rfl) ?_
  refine v_aload_n aX8_line_0 rfl ?_
  refine v_cVi (c_X8_faultOf hM h ht hp) aX8_line_1 mX8_faultOf vX8_faultOf lX8_93 hM.p rfl rfl rfl rfl rfl (Nat.le_of_ble_eq_true rfl) ⟨Nat.le_of_ble_eq_true rfl, Nat.le_of_ble_eq_true rfl⟩ (Nat.le_of_ble_eq_true rfl) ?_
  refine v_if_lt 10 rfl aX8_line_4 (by omega) (fun c4 => ?_) (fun c4 => ?_)
  · --
    obtain ⟨q1, q2⟩ := hF (by omega)
    refine v_aload_n aX8_line_10 rfl ?_
    refine v_gi 3 rfl aX8_line_11 fX8_83 hM.p rfl rfl ?_
    rw [f3]
    refine v_aload_n aX8_line_14 rfl ?_
    refine v_gi 1 rfl aX8_line_15 fX8_86 hM.p rfl rfl ?_
    rw [f1]
    refine v_iconst aX8_line_18 ?_
    refine v_idiv (by omega) (by omega) aX8_line_19 ?_
    refine v_iadd aX8_line_20 ?_
    refine v_bipush (by decide) aX8_line_21 ?_
    refine v_icmp_le 29 rfl aX8_line_23 (by omega) (by omega) (fun c23 => ?_) (fun c23 => ?_)
    · --
      refine v_aload_n aX8_line_29 rfl ?_
      refine v_getr aX8_line_30 fX8_20 hM.p rfl rfl ?_
      refine v_aload_n aX8_line_33 rfl ?_
      refine v_getr aX8_line_34 fX8_13 hM.p rfl rfl ?_
      refine v_iconst aX8_line_37 ?_
      refine v_iald aX8_line_38 hM.p_pad (by omega) (by decide) ?_
      rw [fg]
      obtain ⟨p1, p2, p3⟩ := q1.1
      have q0 := q1.2.1 0 (by omega) (by omega) (by omega)
      refine v_bipush (by decide) aX8_line_39 ?_
      refine v_isub aX8_line_41 ?_
      refine v_dup2 rfl rfl aX8_line_42 ?_
      refine v_iald aX8_line_43 hM.p_lifts (by omega) (by decide) ?_
      refine v_iconst aX8_line_44 ?_
      refine v_iadd aX8_line_45 ?_
      refine v_iast aX8_line_46 hM.p_lifts (by omega) (by decide) ?_
      refine v_iconst aX8_line_47 ?_
      refine v_istore_n aX8_line_48 (by decide) rfl ?_
      refine l_X8_line (μ0 := μ) hM (by rw [fg, f1]; exact q1) (by rw [fg, f1]; exact q2) 41 2 _ (t.2.2.2.1, iup t.2.2.2.2.1 (g 0 - 97) (t.2.2.2.2.1 (g 0 - 97) + 1), t.2.1) _ (by omega) (by omega) (by show 0 ≤ t.2.1 ∧ t.2.1 + _ ≤ 12; omega) ⟨fun z z0 z6 => ?_, ?_, ?_, fun q e1 e2 e3 => ?_⟩ (Or.inl rfl) (fun μ1 L hw => ?_)
      · rw [upd2_row (by omega)]; exact h.1.2.2.2.1 z z0 z6
      · rw [upd2_iup, row_same]
        exact iup_eq6 h.1.2.2.2.2.1 (by rw [h.1.2.2.2.2.1 _ (by omega) (by omega)])
      · rw [upd2_row (by omega)]
        funext z
        by_cases e : z = 3
        · subst e; rw [iup_same]; exact f3
        · rw [iup_ne e]
      · rw [upd2_row e3]
      rw [fg, f1] at hw
      obtain ⟨w1, w2, w3, w4⟩ := hw
      refine v_aload_n aX8_line_217 rfl ?_
      refine v_iconst aX8_line_218 ?_
      refine v_pi 1 rfl aX8_line_219 fX8_86 nf8_1 ok8_1 hM.p rfl rfl ?_
      refine v_aload_n aX8_line_222 rfl ?_
      refine v_gi 3 rfl aX8_line_223 fX8_83 hM.p rfl rfl ?_
      refine v_ireturn aX8_line_226 rfl ⟨Nat.le_refl _, Nat.le_refl _⟩ ?_
      refine ⟨_, rfl, rfl, ?_, ?_, ?_⟩
      · unfold sp_line
        rw [if_neg (by omega), if_neg (by omega), upd2_ap, if_neg (by omega), w3, iup_same]
        rfl
      · unfold sp_line
        rw [if_neg (by omega), if_neg (by omega)]
        obtain ⟨⟨t1, t2, t3, t4, t5, t6, t7, t8, t9⟩, tg, tn⟩ := h
        refine MoAt.set_sz (n := n) ⟨⟨?_, ?_, ?_, w1, w2, ?_, ?_, ?_, ?_⟩, ?_, ?_⟩
        · rw [w3, iup_ne (by decide)]; exact t1
        · rw [w3, iup_same]; rfl
        · rw [w3, iup_ne (by decide)]; exact t3
        · rw [w4 _ (by omega) (by omega) (by omega)]; exact t6
        · rw [w4 _ (by omega) (by omega) (by omega)]; exact t7
        · rw [w4 _ (by omega) (by omega) (by omega)]; exact t8
        · rw [w4 _ (by omega) (by omega) (by omega)]; exact t9
        · rw [w4 _ (by omega) (by omega) (by omega)]; exact tg
        · rw [w3, iup_ne (by decide)]; exact tn
      · intro q hq
        rw [upd2_row (by omega), w4 q (by omega) (by omega) (by omega)]
    · --
      refine v_bipush (by decide) aX8_line_26 ?_
      refine v_ireturn aX8_line_28 rfl ⟨Nat.le_refl _, Nat.le_refl _⟩ ?_
      rw [show sp_line t g n = (-4, t, n) from by unfold sp_line; rw [if_neg (by omega), if_pos (by omega)]]
      exact ⟨_, rfl, rfl, rfl, h, Out.rf⟩
  · --
    refine v_bipush (by decide) aX8_line_7 ?_
    refine v_ireturn aX8_line_9 rfl ⟨Nat.le_refl _, Nat.le_refl _⟩ ?_
    rw [show sp_line t g n = (-5, t, n) from if_pos (by omega)]
    exact ⟨_, rfl, rfl, rfl, h, Out.rf⟩
end MOD3
