theorem QR.obj {h : mm_H} {q : List (Int32 × Int64)} (hq : QR h q) : ∃ fs, h.2.2 4 = some (2, fs) := by
  obtain ⟨hd, fb, fv, h4, -⟩ := hq
  exact ⟨_, h4⟩
theorem c_alone {F : Nat} {h : mm_H} {S : St} {k j : Nat} {v : Int64} (ho : Ok S) (hk : k < sM S) (hR : RC S h) (ej : (sA S k).1 = nI j) (hj : j < 15) (hn : ¬ j = 5 ∧ ¬ (8 ≤ j ∧ j ≤ 12)) : mW none (F + 4) mX3_performAlone 0 [(0, .ref 1), (1, .ref (aa k)), (2, .long v)] [] h (cP (m_al j S (sA S k) v) h) := by
  have hac := hR.ac hk
  have hA := ho.2.2.1 k hk
  have hM := ho.1
  have hcan := hA.1
  rw [ej] at hcan
  refine w_aload_n (q := 1) aX3_performAlone_0 rfl rfl ?_
  refine w_get (q := 4) aX3_performAlone_1 f_3_160 (hac) rfl rfl ?_
  rw [ej]
  have hcs : j = 0 ∨ j = 1 ∨ j = 2 ∨ j = 3 ∨ j = 4 ∨ j = 6 ∨ j = 7 ∨ j = 13 ∨ j = 14 := by omega
  rcases hcs with rfl | rfl | rfl | rfl | rfl | rfl | rfl | rfl | rfl
  · obtain ⟨i, hi, ei⟩ := rN_of (by omega) (can_0.mpr hcan)
    refine w_table (t := 80) (o := 76) aX3_performAlone_4 (by skip; decide) (by skip; decide) (by skip; rfl) (by decide) ?_
    refine w_aload_n (q := 81) aX3_performAlone_80 rfl rfl ?_
    refine w_get (q := 84) aX3_performAlone_81 f_3_9 (hR.ho) rfl rfl ?_
    refine w_aload_n (q := 85) aX3_performAlone_84 rfl rfl ?_
    refine w_get (q := 88) aX3_performAlone_85 f_3_163 (hac) rfl rfl ?_
    rw [ei]
    refine w_dup2 (q := 89) aX3_performAlone_88 ⟨rfl, rfl⟩ rfl ?_
    refine w_lald (q := 90) aX3_performAlone_89 (hR.ta) (mm_ix_at (n := i) rfl (by omega) (rg_at hi)) rfl ?_
    refine w_lload_n (q := 91) aX3_performAlone_90 rfl rfl ?_
    refine w_aload_n (q := 92) aX3_performAlone_91 rfl rfl ?_
    refine w_get (q := 95) aX3_performAlone_92 f_3_166 (hac) rfl rfl ?_
    refine w_i2l (q := 96) aX3_performAlone_95 rfl ?_
    refine w_ladd (q := 97) aX3_performAlone_96 rfl ?_
    refine w_ladd (q := 98) aX3_performAlone_97 rfl ?_
    refine w_last (q := 99) (n := i) (vs' := _) aX3_performAlone_98 (hR.ta) (rfl) (by rw [rg_len]; exact hi) (by rw [rg_len]; omega) (rg_set _ _ _ _) rfl ?_
    refine w_iconst (v := 0) (q := 100) aX3_performAlone_99 rfl rfl ?_
    refine w_iret aX3_performAlone_100 rfl ?_
    rw [m_al_0]
    rw [ei, nI_clamp (by omega)]
    exact ⟨rfl, hR.upTa (by rw [fu_map Value.long]), fr.rf.up (AR_lit (by omega))⟩
  · obtain ⟨i, hi, ei⟩ := rN_of (by omega) (can_1.mpr hcan)
    refine w_table (t := 101) (o := 97) aX3_performAlone_4 (by skip; decide) (by skip; decide) (by skip; rfl) (by decide) ?_
    refine w_aload_n (q := 102) aX3_performAlone_101 rfl rfl ?_
    refine w_get (q := 105) aX3_performAlone_102 f_3_9 (hR.ho) rfl rfl ?_
    refine w_aload_n (q := 106) aX3_performAlone_105 rfl rfl ?_
    refine w_get (q := 109) aX3_performAlone_106 f_3_163 (hac) rfl rfl ?_
    refine w_aload_n (q := 110) aX3_performAlone_109 rfl rfl ?_
    refine w_get (q := 113) aX3_performAlone_110 f_3_9 (hR.ho) rfl rfl ?_
    refine w_aload_n (q := 114) aX3_performAlone_113 rfl rfl ?_
    refine w_get (q := 117) aX3_performAlone_114 f_3_163 (hac) rfl rfl ?_
    rw [ei]
    refine w_lald (q := 118) aX3_performAlone_117 (hR.ta) (mm_ix_at (n := i) rfl (by omega) (rg_at hi)) rfl ?_
    refine w_lload_n (q := 119) aX3_performAlone_118 rfl rfl ?_
    refine w_maxJ (q := 122) aX3_performAlone_119 x_3_189 (Nat.le_of_ble_eq_true rfl) rfl ?_
    refine w_last (q := 123) (n := i) (vs' := _) aX3_performAlone_122 (hR.ta) (rfl) (by rw [rg_len]; exact hi) (by rw [rg_len]; omega) (rg_set _ _ _ _) rfl ?_
    refine w_iconst (v := 0) (q := 124) aX3_performAlone_123 rfl rfl ?_
    refine w_iret aX3_performAlone_124 rfl ?_
    rw [m_al_1]
    rw [ei, nI_clamp (by omega)]
    exact ⟨rfl, hR.upTa (by rw [fu_map Value.long]), fr.rf.up (AR_lit (by omega))⟩
  · obtain ⟨i, hi, ei⟩ := rN_of (by omega) (can_2 hcan)
    refine w_table (t := 125) (o := 121) aX3_performAlone_4 (by skip; decide) (by skip; decide) (by skip; rfl) (by decide) ?_
    refine w_aload_n (q := 126) aX3_performAlone_125 rfl rfl ?_
    refine w_get (q := 129) aX3_performAlone_126 f_3_9 (hR.ho) rfl rfl ?_
    refine w_aload_n (q := 130) aX3_performAlone_129 rfl rfl ?_
    refine w_get (q := 133) aX3_performAlone_130 f_3_163 (hac) rfl rfl ?_
    rw [ei]
    refine w_aload_n (q := 134) aX3_performAlone_133 rfl rfl ?_
    refine w_get (q := 137) aX3_performAlone_134 f_3_192 (hac) rfl rfl ?_
    refine w_aload_n (q := 138) aX3_performAlone_137 rfl rfl ?_
    refine w_get (q := 141) aX3_performAlone_138 f_3_166 (hac) rfl rfl ?_
    refine w_i2l (q := 142) aX3_performAlone_141 rfl ?_
    refine w_ladd (q := 143) aX3_performAlone_142 rfl ?_
    refine w_last (q := 144) (n := i) (vs' := _) aX3_performAlone_143 (hR.ta) (rfl) (by rw [rg_len]; exact hi) (by rw [rg_len]; omega) (rg_set _ _ _ _) rfl ?_
    refine w_iconst (v := 0) (q := 145) aX3_performAlone_144 rfl rfl ?_
    refine w_iret aX3_performAlone_145 rfl ?_
    rw [m_al_2]
    rw [ei, nI_clamp (by omega)]
    exact ⟨rfl, hR.upTa (by rw [fu_map Value.long]), fr.rf.up (AR_lit (by omega))⟩
  · obtain ⟨i, hi, ei⟩ := rN_of (by omega) (can_3.mpr hcan)
    refine w_table (t := 146) (o := 142) aX3_performAlone_4 (by skip; decide) (by skip; decide) (by skip; rfl) (by decide) ?_
    refine w_aload_n (q := 147) aX3_performAlone_146 rfl rfl ?_
    refine w_aload_n (q := 148) aX3_performAlone_147 rfl rfl ?_
    refine w_get (q := 151) aX3_performAlone_148 f_3_163 (hac) rfl rfl ?_
    rw [ei]
    refine w_lload_n (q := 152) aX3_performAlone_151 rfl rfl ?_
    refine w_callV aX3_performAlone_152 t_3_196 (this_at rfl hR.ho) (rfl) (c_shareTally hi hR) (fun r152 h152 hp => ?_)
    obtain ⟨rfl, hR2, hf⟩ := hp
    refine w_iret aX3_performAlone_155 rfl ?_
    rw [m_al_3]
    rw [ei, nI_clamp (by omega)]
    exact ⟨rfl, hR2, hf⟩
  · refine w_table (t := 156) (o := 152) aX3_performAlone_4 (by skip; decide) (by skip; decide) (by skip; rfl) (by decide) ?_
    refine w_aload_n (q := 157) aX3_performAlone_156 rfl rfl ?_
    refine w_lload_n (q := 158) aX3_performAlone_157 rfl rfl ?_
    refine w_aload_n (q := 159) aX3_performAlone_158 rfl rfl ?_
    refine w_get (q := 162) aX3_performAlone_159 f_3_166 (hac) rfl rfl ?_
    refine w_callV aX3_performAlone_162 t_3_199 (this_at rfl hR.ho) (rfl) (c_addAtPlace hR) (fun r162 h162 hp => ?_)
    obtain ⟨rfl, hR2, hf⟩ := hp
    refine w_iret aX3_performAlone_165 rfl ?_
    exact ⟨rfl, hR2, hf⟩
  · refine w_table (t := 166) (o := 162) aX3_performAlone_4 (by skip; decide) (by skip; decide) (by skip; rfl) (by decide) ?_
    obtain ⟨fs, h4⟩ := hR.qu.obj
    refine w_aload_n (q := 167) aX3_performAlone_166 rfl rfl ?_
    refine w_get (q := 170) aX3_performAlone_167 f_3_22 (hR.ho) rfl rfl ?_
    refine w_aload_n (q := 171) aX3_performAlone_170 rfl rfl ?_
    refine w_get (q := 174) aX3_performAlone_171 f_3_163 (hac) rfl rfl ?_
    refine w_lload_n (q := 175) aX3_performAlone_174 rfl rfl ?_
    refine w_aload_n (q := 176) aX3_performAlone_175 rfl rfl ?_
    refine w_get (q := 179) aX3_performAlone_176 f_3_166 (hac) rfl rfl ?_
    refine w_i2l (q := 180) aX3_performAlone_179 rfl ?_
    refine w_ladd (q := 181) aX3_performAlone_180 rfl ?_
    refine w_callV aX3_performAlone_181 t_3_203 (this_at rfl h4) (rfl) (c_qAppend hR.qu) (fun r181 h181 hp => ?_)
    rw [m_al_6]
    rcases hp with ⟨hl, rfl, rfl⟩ | ⟨hl, rfl, hq, hf⟩
    · rw [if_pos hl]
      refine w_if_eq (t := 191) (q := 187) aX3_performAlone_184 (by decide) rfl (fun c184 => ?_) (fun c184 => ?_)
      · refine w_iconst (v := 4) (q := 192) aX3_performAlone_191 rfl rfl ?_
        refine w_iret aX3_performAlone_192 rfl ?_
        exact ⟨rfl, hR, fr.rf⟩
      · exact absurd rfl c184
    · rw [if_neg (by omega)]
      refine w_if_eq (t := 191) (q := 187) aX3_performAlone_184 (by decide) rfl (fun c184 => ?_) (fun c184 => ?_)
      · exact absurd c184 (by decide)
      · refine w_iconst (v := 0) (q := 188) aX3_performAlone_187 rfl rfl ?_
        refine w_goto (t := 192) aX3_performAlone_188 (by decide) ?_
        refine w_iret aX3_performAlone_192 rfl ?_
        exact ⟨rfl, hR.upQu hf hq, hf.mono (fun q hq => AR_lit (by unfold Aq at hq; omega))⟩
  · refine w_table (t := 193) (o := 189) aX3_performAlone_4 (by skip; decide) (by skip; decide) (by skip; rfl) (by decide) ?_
    refine w_aload_n (q := 194) aX3_performAlone_193 rfl rfl ?_
    refine w_dup (q := 195) aX3_performAlone_194 rfl rfl ?_
    refine w_get (q := 198) aX3_performAlone_195 f_3_118 (hR.ho) rfl rfl ?_
    refine w_iconst (v := 1) (q := 199) aX3_performAlone_198 rfl rfl ?_
    refine w_iadd (q := 200) aX3_performAlone_199 rfl ?_
    refine w_put (q := 203) (fs' := [_, _, _, _, _, _, _, _, _, _, _, _, _, _, _, _, _]) aX3_performAlone_200 f_3_118 (hR.ho) (Nat.le_of_ble_eq_true rfl) rfl rfl (Or.inl rfl) rfl rfl ?_
    refine w_bipush (v := 7) (q := 205) aX3_performAlone_203 rfl rfl ?_
    refine w_iret aX3_performAlone_205 rfl ?_
    exact ⟨rfl, hR.upHo (S' := uC S (inc (sC S) 6)) rfl ⟨rfl, rfl, rfl, rfl, rfl, rfl, rfl, rfl⟩, fr.rf.up (AR_lit (by omega))⟩
  · refine w_table (t := 206) (o := 202) aX3_performAlone_4 (by skip; decide) (by skip; decide) (by skip; rfl) (by decide) ?_
    refine w_aload_n (q := 207) aX3_performAlone_206 rfl rfl ?_
    refine w_aload_n (q := 208) aX3_performAlone_207 rfl rfl ?_
    refine w_get (q := 211) aX3_performAlone_208 f_3_163 (hac) rfl rfl ?_
    refine w_callV aX3_performAlone_211 t_3_206 (this_at rfl hR.ho) (rfl) (c_removeAll hR) (fun r211 h211 hp => ?_)
    obtain ⟨rfl, hR2, hf⟩ := hp
    refine w_iconst (v := 0) (q := 215) aX3_performAlone_214 rfl rfl ?_
    refine w_iret aX3_performAlone_215 rfl ?_
    exact ⟨rfl, hR2, hf⟩
  · obtain ⟨i, hi, ei⟩ := rN_of (by omega) (can_14.mpr hcan).2
    obtain ⟨g, hg⟩ := hR.bel hi
    refine w_table (t := 216) (o := 212) aX3_performAlone_4 (by skip; decide) (by skip; decide) (by skip; rfl) (by decide) ?_
    refine w_aload_n (q := 217) aX3_performAlone_216 rfl rfl ?_
    refine w_get (q := 220) aX3_performAlone_217 f_3_15 (hR.ho) rfl rfl ?_
    refine w_aload_n (q := 221) aX3_performAlone_220 rfl rfl ?_
    refine w_get (q := 224) aX3_performAlone_221 f_3_166 (hac) rfl rfl ?_
    rw [ei]
    refine w_aald (q := 225) aX3_performAlone_224 (hR.be) (by decide) (mm_ix_at (n := i) rfl (by omega) (rg_at hi)) rfl ?_
    refine w_aload_n (q := 226) aX3_performAlone_225 rfl rfl ?_
    refine w_get (q := 229) aX3_performAlone_226 f_3_163 (hac) rfl rfl ?_
    refine w_callV aX3_performAlone_229 t_3_67 (this_at rfl hg.1) (rfl) (c_append hg) (fun r229 h229 hp => ?_)
    rw [m_al_14]
    rw [ei, nI_clamp (by omega)]
    rcases hp with ⟨hin, rfl, rfl⟩ | ⟨hin, hl, rfl, rfl⟩ | ⟨hin, hl, rfl, hg2, hf⟩
    · rw [if_pos hin]
      refine w_bipush (v := -3) (q := 234) aX3_performAlone_232 rfl rfl ?_
      refine w_ic_ne (t := 241) (q := 237) aX3_performAlone_234 (by decide) rfl (fun c234 => ?_) (fun c234 => ?_)
      · refine w_iconst (v := 0) (q := 242) aX3_performAlone_241 rfl rfl ?_
        refine w_iret aX3_performAlone_242 rfl ?_
        exact ⟨rfl, hR, fr.rf⟩
      · exact absurd c234 (by decide)
    · rw [if_neg hin, if_pos hl]
      refine w_bipush (v := -3) (q := 234) aX3_performAlone_232 rfl rfl ?_
      refine w_ic_ne (t := 241) (q := 237) aX3_performAlone_234 (by decide) rfl (fun c234 => ?_) (fun c234 => ?_)
      · exact absurd rfl c234
      · refine w_iconst (v := 4) (q := 238) aX3_performAlone_237 rfl rfl ?_
        refine w_goto (t := 242) aX3_performAlone_238 (by decide) ?_
        refine w_iret aX3_performAlone_242 rfl ?_
        exact ⟨rfl, hR, fr.rf⟩
    · rw [if_neg hin, if_neg (by omega)]
      refine w_bipush (v := -3) (q := 234) aX3_performAlone_232 rfl rfl ?_
      refine w_ic_ne (t := 241) (q := 237) aX3_performAlone_234 (by decide) rfl (fun c234 => ?_) (fun c234 => ?_)
      · refine w_iconst (v := 0) (q := 242) aX3_performAlone_241 rfl rfl ?_
        refine w_iret aX3_performAlone_242 rfl ?_
        have hR2 := hR.upBe hi hf hg2
        rw [fu_id] at hR2
        exact ⟨rfl, hR2, fr_bell hi hf⟩
      · have := nI_pos (n := (sL S i).length) (by omega)
        rw [c234] at this
        exact absurd (by decide) this
