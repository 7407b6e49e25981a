theorem AC_AM {q : Nat} (h : AC q) : ¬ AM q := fun z => by
  unfold AC at h
  have := z.1
  have := z.2
  omega
theorem AM_AC {q : Nat} (h1 : 32 ≤ q) (h2 : q < 55) : ¬ AC q := fun z => by
  unfold AC at z
  omega
theorem AM_AR {q : Nat} (h1 : 32 ≤ q) (h2 : q < 55) : ¬ AR q := fun z => AM_AC h1 h2 z.1
def lwP : Option Value → mm_H → Prop := fun r h => r = some (.int 1) ∧ h.1 ≤ 600001 ∧ h.2.1 ≤ 7302250
set_option maxHeartbeats 4000000 in
theorem l_law {xs : List Int32} (hxl : xs.length ≤ 2048) : ∀ (m i : Nat) (h : mm_H) (S : St) (X : Xs) (M : Nat), xs.length ≤ i + 4 * m → i ≤ xs.length → Lv M S → M ≤ 50 * i → RC S h → RM S [] X h → h.1 = aa (sM S) → 2 ≤ sM S → h.2.1 ≤ 30000 + 7 * sM S → mW (some xs) 2048 mL_law 18 [(3, .int (nI i)), (2, .ref 32), (1, .ref 1), (0, .ref 0)] [] h lwP := by
  intro m
  induction m with
  | zero =>
    intro i h S X M hm hi hL hMi hC hR e1 e2m e2
    have h40 := hL.1.1
    have ea := aa_hi e2m
    refine w_iload_n (q := 19) aL_law_18 rfl rfl ?_
    refine w_aload_n (q := 20) aL_law_19 rfl rfl ?_
    refine w_slen (q := 21) aL_law_20 rfl ?_
    refine w_iconst (v := 4) (q := 22) aL_law_21 rfl rfl ?_
    refine w_isub (q := 23) aL_law_22 rfl ?_
    refine w_ic_gt (t := 640) (q := 26) aL_law_23 (by decide) rfl (fun c23 => ?_) (fun c23 => ?_)
    · refine w_iconst (v := 1) (q := 641) aL_law_640 rfl rfl ?_
      refine w_zret aL_law_641 rfl (Or.inr rfl) ?_
      exact ⟨rfl, by omega, by omega⟩
    · exact absurd ((law_end hxl (by omega)).mpr (by omega)) c23
  | succ m ih =>
    intro i h S X M hm hi hL hMi hC hR e1 e2m e2
    have h40 := hL.1.1
    have ea := aa_hi e2m
    have hMb : M < 2000000 := by omega
    refine w_iload_n (q := 19) aL_law_18 rfl rfl ?_
    refine w_aload_n (q := 20) aL_law_19 rfl rfl ?_
    refine w_slen (q := 21) aL_law_20 rfl ?_
    refine w_iconst (v := 4) (q := 22) aL_law_21 rfl rfl ?_
    refine w_isub (q := 23) aL_law_22 rfl ?_
    refine w_ic_gt (t := 640) (q := 26) aL_law_23 (by decide) rfl (fun c23 => ?_) (fun c23 => ?_)
    · refine w_iconst (v := 1) (q := 641) aL_law_640 rfl rfl ?_
      refine w_zret aL_law_641 rfl (Or.inr rfl) ?_
      exact ⟨rfl, by omega, by omega⟩
    · have hlt : i + 4 ≤ xs.length := by
        by_cases hz : xs.length < i + 4
        · exact absurd ((law_end hxl (by omega)).mpr hz) c23
        · omega
      have nx : ∀ (S' : St) (X' : Xs) (h' : mm_H), Lv (M + 200) S' → RC S' h' → RM S' [] X' h' → h'.1 = aa (sM S') → 2 ≤ sM S' → h'.2.1 ≤ 30000 + 7 * sM S' → mW (some xs) 2048 mL_law 634 [(3, .int (nI i)), (2, .ref 32), (1, .ref 1), (0, .ref 0)] [] h' lwP := fun S' X' h' hL' hC' hR' e1' em' e2' => by
        refine w_iinc (q := 637) (ls' := [(3, _), (2, _), (1, _), (0, _)]) aL_law_634 rfl rfl (by decide) rfl rfl ?_
        refine w_goto (t := 18) aL_law_637 (by decide) ?_
        rw [show nI i + Int32.ofInt 4 = nI (i + 4) from nI_p4 i]
        exact ih (i + 4) h' S' X' (M + 200) (by omega) (by omega) hL' (by omega) hC' hR' e1' em' e2'
      obtain ⟨x0, hx0⟩ : ∃ x, xs[i]? = some x := ⟨xs[i]'(by omega), List.getElem?_eq_getElem (by omega)⟩
      obtain ⟨x1, hx1⟩ : ∃ x, xs[i + 1]? = some x := ⟨xs[i + 1]'(by omega), List.getElem?_eq_getElem (by omega)⟩
      obtain ⟨x2, hx2⟩ : ∃ x, xs[i + 2]? = some x := ⟨xs[i + 2]'(by omega), List.getElem?_eq_getElem (by omega)⟩
      obtain ⟨x3, hx3⟩ : ∃ x, xs[i + 3]? = some x := ⟨xs[i + 3]'(by omega), List.getElem?_eq_getElem (by omega)⟩
      refine w_aload_n (q := 27) aL_law_26 rfl rfl ?_
      refine w_iload_n (q := 28) aL_law_27 rfl rfl ?_
      refine w_sld (n := i) (q := 29) aL_law_28 rfl (by omega) hx0 rfl ?_
      refine w_bipush (v := 15) (q := 31) aL_law_29 rfl rfl ?_
      refine w_iand (q := 32) aL_law_31 rfl ?_
      obtain ⟨t, ht, et⟩ := and15 x0
      rw [et]
      have ht2 : t = 0 ∨ t = 1 ∨ t = 2 ∨ t = 3 ∨ t = 4 ∨ t = 5 ∨ t = 6 ∨ t = 7 ∨ t = 8 ∨ t = 9 ∨ t = 10 ∨ t = 11 ∨ t = 12 ∨ t = 13 ∨ t = 14 ∨ t = 15 := by omega
      rcases ht2 with rfl | rfl | rfl | rfl | rfl | rfl | rfl | rfl | rfl | rfl | rfl | rfl | rfl | rfl | rfl | rfl
      · refine w_table (t := 108) (o := 76) aL_law_32 (by skip; decide) (by skip; decide) (by skip; rfl) (by decide) ?_
        refine w_aload_n (q := 109) aL_law_108 rfl rfl ?_
        refine w_aload_n (q := 110) aL_law_109 rfl rfl ?_
        refine w_iload_n (q := 111) aL_law_110 rfl rfl ?_
        refine w_iconst (v := 1) (q := 112) aL_law_111 rfl rfl ?_
        refine w_iadd (q := 113) aL_law_112 rfl ?_
        refine w_sld (n := i + 1) (q := 114) aL_law_113 (nI_1 i) (by omega) hx1 rfl ?_
        refine w_aload_n (q := 115) aL_law_114 rfl rfl ?_
        refine w_iload_n (q := 116) aL_law_115 rfl rfl ?_
        refine w_iconst (v := 2) (q := 117) aL_law_116 rfl rfl ?_
        refine w_iadd (q := 118) aL_law_117 rfl ?_
        refine w_sld (n := i + 2) (q := 119) aL_law_118 (nI_p2 i) (by omega) hx2 rfl ?_
        refine w_i2l (q := 120) aL_law_119 rfl ?_
        refine w_bipush (v := 32) (q := 122) aL_law_120 rfl rfl ?_
        refine w_lshl (q := 123) aL_law_122 rfl ?_
        refine w_aload_n (q := 124) aL_law_123 rfl rfl ?_
        refine w_iload_n (q := 125) aL_law_124 rfl rfl ?_
        refine w_iconst (v := 3) (q := 126) aL_law_125 rfl rfl ?_
        refine w_iadd (q := 127) aL_law_126 rfl ?_
        refine w_sld (n := i + 3) (q := 128) aL_law_127 (nI_p3 i) (by omega) hx3 rfl ?_
        refine w_i2l (q := 129) aL_law_128 rfl ?_
        refine w_ldc (q := 132) aL_law_129 l_5_13 rfl ?_
        refine w_land (q := 133) aL_law_132 rfl ?_
        refine w_lor (q := 134) aL_law_133 rfl ?_
        refine w_callV aL_law_134 t_5_15 (this_at rfl hC.ho) (rfl) (c_tally hC) (fun r134 h134 hp => ?_)
        obtain ⟨rfl, hC1, hf1⟩ := hp
        have hR1 : RM S [] X h134 := hR.kept (fun q k1 k2 => hf1.2.2 q (AM_AR k1 k2))
        obtain ⟨c1, ec1⟩ := r_cell hR1
        refine w_aload_n (q := 138) aL_law_137 rfl rfl ?_
        refine w_aload_n (q := 139) aL_law_138 rfl rfl ?_
        refine w_iload_n (q := 140) aL_law_139 rfl rfl ?_
        refine w_iconst (v := 1) (q := 141) aL_law_140 rfl rfl ?_
        refine w_iadd (q := 142) aL_law_141 rfl ?_
        refine w_sld (n := i + 1) (q := 143) aL_law_142 (nI_1 i) (by omega) hx1 rfl ?_
        refine w_aload_n (q := 144) aL_law_143 rfl rfl ?_
        refine w_iload_n (q := 145) aL_law_144 rfl rfl ?_
        refine w_iconst (v := 2) (q := 146) aL_law_145 rfl rfl ?_
        refine w_iadd (q := 147) aL_law_146 rfl ?_
        refine w_sld (n := i + 2) (q := 148) aL_law_147 (nI_p2 i) (by omega) hx2 rfl ?_
        refine w_i2l (q := 149) aL_law_148 rfl ?_
        refine w_bipush (v := 32) (q := 151) aL_law_149 rfl rfl ?_
        refine w_lshl (q := 152) aL_law_151 rfl ?_
        refine w_aload_n (q := 153) aL_law_152 rfl rfl ?_
        refine w_iload_n (q := 154) aL_law_153 rfl rfl ?_
        refine w_iconst (v := 3) (q := 155) aL_law_154 rfl rfl ?_
        refine w_iadd (q := 156) aL_law_155 rfl ?_
        refine w_sld (n := i + 3) (q := 157) aL_law_156 (nI_p3 i) (by omega) hx3 rfl ?_
        refine w_i2l (q := 158) aL_law_157 rfl ?_
        refine w_ldc (q := 161) aL_law_158 l_5_13 rfl ?_
        refine w_land (q := 162) aL_law_161 rfl ?_
        refine w_lor (q := 163) aL_law_162 rfl ?_
        refine w_callV aL_law_163 t_5_19 (this_at rfl ec1) (rfl) (d_tally hR1) (fun r163 h163 hp => ?_)
        obtain ⟨rfl, hR2, hf2⟩ := hp
        refine w_ic_eq (t := 634) (q := 169) aL_law_166 (by decide) rfl (fun c166 => ?_) (fun c166 => ?_)
        · refine nx _ X _ (hL.tally.mono (by omega)) (hC1.kept (fun q hq => hf2.2.2 q (AC_AM hq))) hR2 ?_ ?_ ?_
          · rw [hf2.1, hf1.1, e1, pm_tally _ _ _]
          · rw [pm_tally _ _ _]; exact e2m
          · rw [hf2.2.1, hf1.2.1, pm_tally _ _ _]; exact e2
        · exact absurd rfl c166
      · refine w_table (t := 171) (o := 139) aL_law_32 (by skip; decide) (by skip; decide) (by skip; rfl) (by decide) ?_
        refine w_aload_n (q := 172) aL_law_171 rfl rfl ?_
        refine w_aload_n (q := 173) aL_law_172 rfl rfl ?_
        refine w_iload_n (q := 174) aL_law_173 rfl rfl ?_
        refine w_iconst (v := 1) (q := 175) aL_law_174 rfl rfl ?_
        refine w_iadd (q := 176) aL_law_175 rfl ?_
        refine w_sld (n := i + 1) (q := 177) aL_law_176 (nI_1 i) (by omega) hx1 rfl ?_
        refine w_aload_n (q := 178) aL_law_177 rfl rfl ?_
        refine w_iload_n (q := 179) aL_law_178 rfl rfl ?_
        refine w_iconst (v := 2) (q := 180) aL_law_179 rfl rfl ?_
        refine w_iadd (q := 181) aL_law_180 rfl ?_
        refine w_sld (n := i + 2) (q := 182) aL_law_181 (nI_p2 i) (by omega) hx2 rfl ?_
        refine w_callV aL_law_182 t_5_20 (this_at rfl hC.ho) (rfl) (c_way hC) (fun r182 h182 hp => ?_)
        obtain ⟨rfl, hC1, hf1⟩ := hp
        have hR1 : RM S [] X h182 := hR.kept (fun q k1 k2 => hf1.2.2 q (AM_AR k1 k2))
        obtain ⟨c1, ec1⟩ := r_cell hR1
        refine w_aload_n (q := 186) aL_law_185 rfl rfl ?_
        refine w_aload_n (q := 187) aL_law_186 rfl rfl ?_
        refine w_iload_n (q := 188) aL_law_187 rfl rfl ?_
        refine w_iconst (v := 1) (q := 189) aL_law_188 rfl rfl ?_
        refine w_iadd (q := 190) aL_law_189 rfl ?_
        refine w_sld (n := i + 1) (q := 191) aL_law_190 (nI_1 i) (by omega) hx1 rfl ?_
        refine w_aload_n (q := 192) aL_law_191 rfl rfl ?_
        refine w_iload_n (q := 193) aL_law_192 rfl rfl ?_
        refine w_iconst (v := 2) (q := 194) aL_law_193 rfl rfl ?_
        refine w_iadd (q := 195) aL_law_194 rfl ?_
        refine w_sld (n := i + 2) (q := 196) aL_law_195 (nI_p2 i) (by omega) hx2 rfl ?_
        refine w_callV aL_law_196 t_5_24 (this_at rfl ec1) (rfl) (d_way hR1) (fun r196 h196 hp => ?_)
        obtain ⟨rfl, hR2, hf2⟩ := hp
        refine w_ic_eq (t := 634) (q := 202) aL_law_199 (by decide) rfl (fun c199 => ?_) (fun c199 => ?_)
        · refine nx _ X _ (hL.way.mono (by omega)) (hC1.kept (fun q hq => hf2.2.2 q (AC_AM hq))) hR2 ?_ ?_ ?_
          · rw [hf2.1, hf1.1, e1, pm_way _ _ _]
          · rw [pm_way _ _ _]; exact e2m
          · rw [hf2.2.1, hf1.2.1, pm_way _ _ _]; exact e2
        · exact absurd rfl c199
      · refine w_table (t := 204) (o := 172) aL_law_32 (by skip; decide) (by skip; decide) (by skip; rfl) (by decide) ?_
        refine w_aload_n (q := 205) aL_law_204 rfl rfl ?_
        refine w_aload_n (q := 206) aL_law_205 rfl rfl ?_
        refine w_iload_n (q := 207) aL_law_206 rfl rfl ?_
        refine w_iconst (v := 1) (q := 208) aL_law_207 rfl rfl ?_
        refine w_iadd (q := 209) aL_law_208 rfl ?_
        refine w_sld (n := i + 1) (q := 210) aL_law_209 (nI_1 i) (by omega) hx1 rfl ?_
        refine w_aload_n (q := 211) aL_law_210 rfl rfl ?_
        refine w_iload_n (q := 212) aL_law_211 rfl rfl ?_
        refine w_iconst (v := 2) (q := 213) aL_law_212 rfl rfl ?_
        refine w_iadd (q := 214) aL_law_213 rfl ?_
        refine w_sld (n := i + 2) (q := 215) aL_law_214 (nI_p2 i) (by omega) hx2 rfl ?_
        refine w_aload_n (q := 216) aL_law_215 rfl rfl ?_
        refine w_iload_n (q := 217) aL_law_216 rfl rfl ?_
        refine w_iconst (v := 3) (q := 218) aL_law_217 rfl rfl ?_
        refine w_iadd (q := 219) aL_law_218 rfl ?_
        refine w_sld (n := i + 3) (q := 220) aL_law_219 (nI_p3 i) (by omega) hx3 rfl ?_
        refine w_callV aL_law_220 t_5_25 (this_at rfl hC.ho) (rfl) (c_hearer h40 e1 hC) (fun r220 h220 hp => ?_)
        obtain ⟨rfl, hC1, g1, g2, g3⟩ := hp
        have hR1 : RM S [] X h220 := hR.kept (fun q k1 k2 => g3 q (AM_AC k1 k2))
        obtain ⟨c1, ec1⟩ := r_cell hR1
        refine w_aload_n (q := 224) aL_law_223 rfl rfl ?_
        refine w_aload_n (q := 225) aL_law_224 rfl rfl ?_
        refine w_iload_n (q := 226) aL_law_225 rfl rfl ?_
        refine w_iconst (v := 1) (q := 227) aL_law_226 rfl rfl ?_
        refine w_iadd (q := 228) aL_law_227 rfl ?_
        refine w_sld (n := i + 1) (q := 229) aL_law_228 (nI_1 i) (by omega) hx1 rfl ?_
        refine w_aload_n (q := 230) aL_law_229 rfl rfl ?_
        refine w_iload_n (q := 231) aL_law_230 rfl rfl ?_
        refine w_iconst (v := 2) (q := 232) aL_law_231 rfl rfl ?_
        refine w_iadd (q := 233) aL_law_232 rfl ?_
        refine w_sld (n := i + 2) (q := 234) aL_law_233 (nI_p2 i) (by omega) hx2 rfl ?_
        refine w_aload_n (q := 235) aL_law_234 rfl rfl ?_
        refine w_iload_n (q := 236) aL_law_235 rfl rfl ?_
        refine w_iconst (v := 3) (q := 237) aL_law_236 rfl rfl ?_
        refine w_iadd (q := 238) aL_law_237 rfl ?_
        refine w_sld (n := i + 3) (q := 239) aL_law_238 (nI_p3 i) (by omega) hx3 rfl ?_
        refine w_callV aL_law_239 t_5_29 (this_at rfl ec1) (rfl) (d_hearer h40 hR1) (fun r239 h239 hp => ?_)
        obtain ⟨rfl, hR2, hf2⟩ := hp
        refine w_ic_eq (t := 634) (q := 245) aL_law_242 (by decide) rfl (fun c242 => ?_) (fun c242 => ?_)
        · have hmm := pm_hearer S x1 x2 x3
          refine nx _ X _ (hL.hearer.mono (by omega)) (hC1.kept (fun q hq => hf2.2.2 q (AC_AM hq))) hR2 ?_ (by omega) ?_
          · rw [hf2.1, g1, e1, ea, aa_hi (by omega)]
            omega
          · rw [hf2.2.1, g2]
            omega
        · exact absurd rfl c242
      · refine w_table (t := 247) (o := 215) aL_law_32 (by skip; decide) (by skip; decide) (by skip; rfl) (by decide) ?_
        refine w_aload_n (q := 248) aL_law_247 rfl rfl ?_
        refine w_aload_n (q := 249) aL_law_248 rfl rfl ?_
        refine w_iload_n (q := 250) aL_law_249 rfl rfl ?_
        refine w_iconst (v := 1) (q := 251) aL_law_250 rfl rfl ?_
        refine w_iadd (q := 252) aL_law_251 rfl ?_
        refine w_sld (n := i + 1) (q := 253) aL_law_252 (nI_1 i) (by omega) hx1 rfl ?_
        refine w_aload_n (q := 254) aL_law_253 rfl rfl ?_
        refine w_iload_n (q := 255) aL_law_254 rfl rfl ?_
        refine w_iconst (v := 2) (q := 256) aL_law_255 rfl rfl ?_
        refine w_iadd (q := 257) aL_law_256 rfl ?_
        refine w_sld (n := i + 2) (q := 258) aL_law_257 (nI_p2 i) (by omega) hx2 rfl ?_
        refine w_callV aL_law_258 t_5_30 (this_at rfl hC.ho) (rfl) (c_bind h40 hC) (fun r258 h258 hp => ?_)
        obtain ⟨rfl, hC1, hf1⟩ := hp
        have hR1 : RM S [] X h258 := hR.kept (fun q k1 k2 => hf1.2.2 q (AM_AR k1 k2))
        obtain ⟨c1, ec1⟩ := r_cell hR1
        refine w_aload_n (q := 262) aL_law_261 rfl rfl ?_
        refine w_aload_n (q := 263) aL_law_262 rfl rfl ?_
        refine w_iload_n (q := 264) aL_law_263 rfl rfl ?_
        refine w_iconst (v := 1) (q := 265) aL_law_264 rfl rfl ?_
        refine w_iadd (q := 266) aL_law_265 rfl ?_
        refine w_sld (n := i + 1) (q := 267) aL_law_266 (nI_1 i) (by omega) hx1 rfl ?_
        refine w_aload_n (q := 268) aL_law_267 rfl rfl ?_
        refine w_iload_n (q := 269) aL_law_268 rfl rfl ?_
        refine w_iconst (v := 2) (q := 270) aL_law_269 rfl rfl ?_
        refine w_iadd (q := 271) aL_law_270 rfl ?_
        refine w_sld (n := i + 2) (q := 272) aL_law_271 (nI_p2 i) (by omega) hx2 rfl ?_
        refine w_callV aL_law_272 t_5_33 (this_at rfl ec1) (rfl) (d_bind h40 hR1) (fun r272 h272 hp => ?_)
        obtain ⟨rfl, hR2, hf2⟩ := hp
        refine w_ic_eq (t := 634) (q := 278) aL_law_275 (by decide) rfl (fun c275 => ?_) (fun c275 => ?_)
        · refine nx _ X _ (hL.bind.mono (by omega)) (hC1.kept (fun q hq => hf2.2.2 q (AC_AM hq))) hR2 ?_ ?_ ?_
          · rw [hf2.1, hf1.1, e1, pm_bind _ _ _]
          · rw [pm_bind _ _ _]; exact e2m
          · rw [hf2.2.1, hf1.2.1, pm_bind _ _ _]; exact e2
        · exact absurd rfl c275
      · refine w_table (t := 280) (o := 248) aL_law_32 (by skip; decide) (by skip; decide) (by skip; rfl) (by decide) ?_
        refine w_aload_n (q := 281) aL_law_280 rfl rfl ?_
        refine w_aload_n (q := 282) aL_law_281 rfl rfl ?_
        refine w_iload_n (q := 283) aL_law_282 rfl rfl ?_
        refine w_iconst (v := 1) (q := 284) aL_law_283 rfl rfl ?_
        refine w_iadd (q := 285) aL_law_284 rfl ?_
        refine w_sld (n := i + 1) (q := 286) aL_law_285 (nI_1 i) (by omega) hx1 rfl ?_
        refine w_aload_n (q := 287) aL_law_286 rfl rfl ?_
        refine w_iload_n (q := 288) aL_law_287 rfl rfl ?_
        refine w_iconst (v := 2) (q := 289) aL_law_288 rfl rfl ?_
        refine w_iadd (q := 290) aL_law_289 rfl ?_
        refine w_sld (n := i + 2) (q := 291) aL_law_290 (nI_p2 i) (by omega) hx2 rfl ?_
        refine w_callV aL_law_291 t_5_34 (this_at rfl hC.ho) (rfl) (c_leave h40 hC) (fun r291 h291 hp => ?_)
        obtain ⟨rfl, hC1, hf1⟩ := hp
        have hR1 : RM S [] X h291 := hR.kept (fun q k1 k2 => hf1.2.2 q (AM_AR k1 k2))
        obtain ⟨c1, ec1⟩ := r_cell hR1
        refine w_aload_n (q := 295) aL_law_294 rfl rfl ?_
        refine w_aload_n (q := 296) aL_law_295 rfl rfl ?_
        refine w_iload_n (q := 297) aL_law_296 rfl rfl ?_
        refine w_iconst (v := 1) (q := 298) aL_law_297 rfl rfl ?_
        refine w_iadd (q := 299) aL_law_298 rfl ?_
        refine w_sld (n := i + 1) (q := 300) aL_law_299 (nI_1 i) (by omega) hx1 rfl ?_
        refine w_aload_n (q := 301) aL_law_300 rfl rfl ?_
        refine w_iload_n (q := 302) aL_law_301 rfl rfl ?_
        refine w_iconst (v := 2) (q := 303) aL_law_302 rfl rfl ?_
        refine w_iadd (q := 304) aL_law_303 rfl ?_
        refine w_sld (n := i + 2) (q := 305) aL_law_304 (nI_p2 i) (by omega) hx2 rfl ?_
        refine w_callV aL_law_305 t_5_37 (this_at rfl ec1) (rfl) (d_leave h40 hR1) (fun r305 h305 hp => ?_)
        obtain ⟨rfl, hR2, hf2⟩ := hp
        refine w_ic_eq (t := 634) (q := 311) aL_law_308 (by decide) rfl (fun c308 => ?_) (fun c308 => ?_)
        · refine nx _ X _ (hL.leave.mono (by omega)) (hC1.kept (fun q hq => hf2.2.2 q (AC_AM hq))) hR2 ?_ ?_ ?_
          · rw [hf2.1, hf1.1, e1, pm_leave _ _ _]
          · rw [pm_leave _ _ _]; exact e2m
          · rw [hf2.2.1, hf1.2.1, pm_leave _ _ _]; exact e2
        · exact absurd rfl c308
      · refine w_table (t := 313) (o := 281) aL_law_32 (by skip; decide) (by skip; decide) (by skip; rfl) (by decide) ?_
        refine w_aload_n (q := 314) aL_law_313 rfl rfl ?_
        refine w_aload_n (q := 315) aL_law_314 rfl rfl ?_
        refine w_iload_n (q := 316) aL_law_315 rfl rfl ?_
        refine w_iconst (v := 1) (q := 317) aL_law_316 rfl rfl ?_
        refine w_iadd (q := 318) aL_law_317 rfl ?_
        refine w_sld (n := i + 1) (q := 319) aL_law_318 (nI_1 i) (by omega) hx1 rfl ?_
        refine w_callV aL_law_319 t_5_38 (this_at rfl hC.ho) (rfl) (c_take h40 hC) (fun r319 h319 hp => ?_)
        obtain ⟨rfl, hC1, hf1⟩ := hp
        have hR1 : RM S [] X h319 := hR.kept (fun q k1 k2 => hf1.2.2 q (AM_AR k1 k2))
        obtain ⟨c1, ec1⟩ := r_cell hR1
        refine w_aload_n (q := 323) aL_law_322 rfl rfl ?_
        refine w_aload_n (q := 324) aL_law_323 rfl rfl ?_
        refine w_iload_n (q := 325) aL_law_324 rfl rfl ?_
        refine w_iconst (v := 1) (q := 326) aL_law_325 rfl rfl ?_
        refine w_iadd (q := 327) aL_law_326 rfl ?_
        refine w_sld (n := i + 1) (q := 328) aL_law_327 (nI_1 i) (by omega) hx1 rfl ?_
        refine w_callV aL_law_328 t_5_42 (this_at rfl ec1) (rfl) (d_take hL.1 hR1) (fun r328 h328 hp => ?_)
        obtain ⟨rfl, hR2, hf2⟩ := hp
        refine w_ic_eq (t := 634) (q := 334) aL_law_331 (by decide) rfl (fun c331 => ?_) (fun c331 => ?_)
        · refine nx _ X _ (hL.take.mono (by omega)) (hC1.kept (fun q hq => hf2.2.2 q (AC_AM hq))) hR2 ?_ ?_ ?_
          · rw [hf2.1, hf1.1, e1, pm_take _ _]
          · rw [pm_take _ _]; exact e2m
          · rw [hf2.2.1, hf1.2.1, pm_take _ _]; exact e2
        · exact absurd rfl c331
      · refine w_table (t := 336) (o := 304) aL_law_32 (by skip; decide) (by skip; decide) (by skip; rfl) (by decide) ?_
        refine w_aload_n (q := 337) aL_law_336 rfl rfl ?_
        refine w_aload_n (q := 338) aL_law_337 rfl rfl ?_
        refine w_iload_n (q := 339) aL_law_338 rfl rfl ?_
        refine w_iconst (v := 1) (q := 340) aL_law_339 rfl rfl ?_
        refine w_iadd (q := 341) aL_law_340 rfl ?_
        refine w_sld (n := i + 1) (q := 342) aL_law_341 (nI_1 i) (by omega) hx1 rfl ?_
        refine w_aload_n (q := 343) aL_law_342 rfl rfl ?_
        refine w_iload_n (q := 344) aL_law_343 rfl rfl ?_
        refine w_iconst (v := 2) (q := 345) aL_law_344 rfl rfl ?_
        refine w_iadd (q := 346) aL_law_345 rfl ?_
        refine w_sld (n := i + 2) (q := 347) aL_law_346 (nI_p2 i) (by omega) hx2 rfl ?_
        refine w_callV aL_law_347 t_5_43 (this_at rfl hC.ho) (rfl) (c_lend h40 hL.1.2.1 hC) (fun r347 h347 hp => ?_)
        obtain ⟨rfl, hC1, hf1⟩ := hp
        have hR1 : RM S [] X h347 := hR.kept (fun q k1 k2 => hf1.2.2 q (AM_AR k1 k2))
        obtain ⟨c1, ec1⟩ := r_cell hR1
        refine w_aload_n (q := 351) aL_law_350 rfl rfl ?_
        refine w_aload_n (q := 352) aL_law_351 rfl rfl ?_
        refine w_iload_n (q := 353) aL_law_352 rfl rfl ?_
        refine w_iconst (v := 1) (q := 354) aL_law_353 rfl rfl ?_
        refine w_iadd (q := 355) aL_law_354 rfl ?_
        refine w_sld (n := i + 1) (q := 356) aL_law_355 (nI_1 i) (by omega) hx1 rfl ?_
        refine w_aload_n (q := 357) aL_law_356 rfl rfl ?_
        refine w_iload_n (q := 358) aL_law_357 rfl rfl ?_
        refine w_iconst (v := 2) (q := 359) aL_law_358 rfl rfl ?_
        refine w_iadd (q := 360) aL_law_359 rfl ?_
        refine w_sld (n := i + 2) (q := 361) aL_law_360 (nI_p2 i) (by omega) hx2 rfl ?_
        refine w_callV aL_law_361 t_5_46 (this_at rfl ec1) (rfl) (d_lend h40 hR1) (fun r361 h361 hp => ?_)
        obtain ⟨rfl, hR2, hf2⟩ := hp
        refine w_ic_eq (t := 634) (q := 367) aL_law_364 (by decide) rfl (fun c364 => ?_) (fun c364 => ?_)
        · refine nx _ X _ (hL.lend.mono (by omega)) (hC1.kept (fun q hq => hf2.2.2 q (AC_AM hq))) hR2 ?_ ?_ ?_
          · rw [hf2.1, hf1.1, e1, pm_lend _ _ _]
          · rw [pm_lend _ _ _]; exact e2m
          · rw [hf2.2.1, hf1.2.1, pm_lend _ _ _]; exact e2
        · exact absurd rfl c364
      · refine w_table (t := 369) (o := 337) aL_law_32 (by skip; decide) (by skip; decide) (by skip; rfl) (by decide) ?_
        refine w_aload_n (q := 370) aL_law_369 rfl rfl ?_
        refine w_aload_n (q := 371) aL_law_370 rfl rfl ?_
        refine w_iload_n (q := 372) aL_law_371 rfl rfl ?_
        refine w_iconst (v := 1) (q := 373) aL_law_372 rfl rfl ?_
        refine w_iadd (q := 374) aL_law_373 rfl ?_
        refine w_sld (n := i + 1) (q := 375) aL_law_374 (nI_1 i) (by omega) hx1 rfl ?_
        refine w_aload_n (q := 376) aL_law_375 rfl rfl ?_
        refine w_iload_n (q := 377) aL_law_376 rfl rfl ?_
        refine w_iconst (v := 2) (q := 378) aL_law_377 rfl rfl ?_
        refine w_iadd (q := 379) aL_law_378 rfl ?_
        refine w_sld (n := i + 2) (q := 380) aL_law_379 (nI_p2 i) (by omega) hx2 rfl ?_
        refine w_i2l (q := 381) aL_law_380 rfl ?_
        refine w_bipush (v := 32) (q := 383) aL_law_381 rfl rfl ?_
        refine w_lshl (q := 384) aL_law_383 rfl ?_
        refine w_aload_n (q := 385) aL_law_384 rfl rfl ?_
        refine w_iload_n (q := 386) aL_law_385 rfl rfl ?_
        refine w_iconst (v := 3) (q := 387) aL_law_386 rfl rfl ?_
        refine w_iadd (q := 388) aL_law_387 rfl ?_
        refine w_sld (n := i + 3) (q := 389) aL_law_388 (nI_p3 i) (by omega) hx3 rfl ?_
        refine w_i2l (q := 390) aL_law_389 rfl ?_
        refine w_ldc (q := 393) aL_law_390 l_5_13 rfl ?_
        refine w_land (q := 394) aL_law_393 rfl ?_
        refine w_lor (q := 395) aL_law_394 rfl ?_
        refine w_callV aL_law_395 t_5_47 (this_at rfl hC.ho) (rfl) (c_ring (by omega) hL.1 hC) (fun r395 h395 hp => ?_)
        obtain ⟨rfl, hC1, hf1⟩ := hp
        have hR1 : RM S [] X h395 := hR.kept (fun q k1 k2 => hf1.2.2 q (AM_AC k1 k2))
        obtain ⟨c1, ec1⟩ := r_cell hR1
        refine w_aload_n (q := 399) aL_law_398 rfl rfl ?_
        refine w_aload_n (q := 400) aL_law_399 rfl rfl ?_
        refine w_iload_n (q := 401) aL_law_400 rfl rfl ?_
        refine w_iconst (v := 1) (q := 402) aL_law_401 rfl rfl ?_
        refine w_iadd (q := 403) aL_law_402 rfl ?_
        refine w_sld (n := i + 1) (q := 404) aL_law_403 (nI_1 i) (by omega) hx1 rfl ?_
        refine w_aload_n (q := 405) aL_law_404 rfl rfl ?_
        refine w_iload_n (q := 406) aL_law_405 rfl rfl ?_
        refine w_iconst (v := 2) (q := 407) aL_law_406 rfl rfl ?_
        refine w_iadd (q := 408) aL_law_407 rfl ?_
        refine w_sld (n := i + 2) (q := 409) aL_law_408 (nI_p2 i) (by omega) hx2 rfl ?_
        refine w_i2l (q := 410) aL_law_409 rfl ?_
        refine w_bipush (v := 32) (q := 412) aL_law_410 rfl rfl ?_
        refine w_lshl (q := 413) aL_law_412 rfl ?_
        refine w_aload_n (q := 414) aL_law_413 rfl rfl ?_
        refine w_iload_n (q := 415) aL_law_414 rfl rfl ?_
        refine w_iconst (v := 3) (q := 416) aL_law_415 rfl rfl ?_
        refine w_iadd (q := 417) aL_law_416 rfl ?_
        refine w_sld (n := i + 3) (q := 418) aL_law_417 (nI_p3 i) (by omega) hx3 rfl ?_
        refine w_i2l (q := 419) aL_law_418 rfl ?_
        refine w_ldc (q := 422) aL_law_419 l_5_13 rfl ?_
        refine w_land (q := 423) aL_law_422 rfl ?_
        refine w_lor (q := 424) aL_law_423 rfl ?_
        refine w_callV aL_law_424 t_5_50 (this_at rfl ec1) (rfl) (d_ring hL hMb hR1) (fun r424 h424 hp => ?_)
        obtain ⟨rfl, ⟨X2, hR2⟩, hf2⟩ := hp
        refine w_ic_eq (t := 634) (q := 430) aL_law_427 (by decide) rfl (fun c427 => ?_) (fun c427 => ?_)
        · refine nx _ X2 _ (hL.ring hMb) (hC1.kept (fun q hq => hf2.2.2 q (AC_AM hq))) hR2 ?_ ?_ ?_
          · rw [hf2.1, hf1.1, e1, pm_ring hL.1 _ _]
          · rw [pm_ring hL.1 _ _]; exact e2m
          · rw [hf2.2.1, hf1.2.1, pm_ring hL.1 _ _]; exact e2
        · exact absurd rfl c427
      · refine w_table (t := 432) (o := 400) aL_law_32 (by skip; decide) (by skip; decide) (by skip; rfl) (by decide) ?_
        refine w_aload_n (q := 433) aL_law_432 rfl rfl ?_
        refine w_callV aL_law_433 t_5_51 (this_at rfl hC.ho) (rfl) (c_drain (by omega) hL.1 hC) (fun r433 h433 hp => ?_)
        obtain ⟨rfl, hC1, hf1⟩ := hp
        have hR1 : RM S [] X h433 := hR.kept (fun q k1 k2 => hf1.2.2 q (AM_AC k1 k2))
        obtain ⟨c1, ec1⟩ := r_cell hR1
        refine w_aload_n (q := 437) aL_law_436 rfl rfl ?_
        refine w_callV aL_law_437 t_5_55 (this_at rfl ec1) (rfl) (d_drain hL hMb hR1) (fun r437 h437 hp => ?_)
        obtain ⟨rfl, ⟨X2, hR2⟩, hf2⟩ := hp
        refine w_ic_eq (t := 634) (q := 443) aL_law_440 (by decide) rfl (fun c440 => ?_) (fun c440 => ?_)
        · refine nx _ X2 _ (hL.drain hMb) (hC1.kept (fun q hq => hf2.2.2 q (AC_AM hq))) hR2 ?_ ?_ ?_
          · rw [hf2.1, hf1.1, e1, pm_drain hL.1]
          · rw [pm_drain hL.1]; exact e2m
          · rw [hf2.2.1, hf1.2.1, pm_drain hL.1]; exact e2
        · exact absurd rfl c440
      · refine w_table (t := 445) (o := 413) aL_law_32 (by skip; decide) (by skip; decide) (by skip; rfl) (by decide) ?_
        refine w_aload_n (q := 446) aL_law_445 rfl rfl ?_
        refine w_aload_n (q := 447) aL_law_446 rfl rfl ?_
        refine w_iload_n (q := 448) aL_law_447 rfl rfl ?_
        refine w_iconst (v := 1) (q := 449) aL_law_448 rfl rfl ?_
        refine w_iadd (q := 450) aL_law_449 rfl ?_
        refine w_sld (n := i + 1) (q := 451) aL_law_450 (nI_1 i) (by omega) hx1 rfl ?_
        refine w_aload_n (q := 452) aL_law_451 rfl rfl ?_
        refine w_iload_n (q := 453) aL_law_452 rfl rfl ?_
        refine w_iconst (v := 2) (q := 454) aL_law_453 rfl rfl ?_
        refine w_iadd (q := 455) aL_law_454 rfl ?_
        refine w_sld (n := i + 2) (q := 456) aL_law_455 (nI_p2 i) (by omega) hx2 rfl ?_
        refine w_i2l (q := 457) aL_law_456 rfl ?_
        refine w_bipush (v := 32) (q := 459) aL_law_457 rfl rfl ?_
        refine w_lshl (q := 460) aL_law_459 rfl ?_
        refine w_aload_n (q := 461) aL_law_460 rfl rfl ?_
        refine w_iload_n (q := 462) aL_law_461 rfl rfl ?_
        refine w_iconst (v := 3) (q := 463) aL_law_462 rfl rfl ?_
        refine w_iadd (q := 464) aL_law_463 rfl ?_
        refine w_sld (n := i + 3) (q := 465) aL_law_464 (nI_p3 i) (by omega) hx3 rfl ?_
        refine w_i2l (q := 466) aL_law_465 rfl ?_
        refine w_ldc (q := 469) aL_law_466 l_5_13 rfl ?_
        refine w_land (q := 470) aL_law_469 rfl ?_
        refine w_lor (q := 471) aL_law_470 rfl ?_
        refine w_callV aL_law_471 t_5_56 (this_at rfl hC.ho) (rfl) (c_act (by omega) hL.1 hC) (fun r471 h471 hp => ?_)
        obtain ⟨rfl, hC1, hf1⟩ := hp
        have hR1 : RM S [] X h471 := hR.kept (fun q k1 k2 => hf1.2.2 q (AM_AC k1 k2))
        obtain ⟨c1, ec1⟩ := r_cell hR1
        refine w_aload_n (q := 475) aL_law_474 rfl rfl ?_
        refine w_aload_n (q := 476) aL_law_475 rfl rfl ?_
        refine w_iload_n (q := 477) aL_law_476 rfl rfl ?_
        refine w_iconst (v := 1) (q := 478) aL_law_477 rfl rfl ?_
        refine w_iadd (q := 479) aL_law_478 rfl ?_
        refine w_sld (n := i + 1) (q := 480) aL_law_479 (nI_1 i) (by omega) hx1 rfl ?_
        refine w_aload_n (q := 481) aL_law_480 rfl rfl ?_
        refine w_iload_n (q := 482) aL_law_481 rfl rfl ?_
        refine w_iconst (v := 2) (q := 483) aL_law_482 rfl rfl ?_
        refine w_iadd (q := 484) aL_law_483 rfl ?_
        refine w_sld (n := i + 2) (q := 485) aL_law_484 (nI_p2 i) (by omega) hx2 rfl ?_
        refine w_i2l (q := 486) aL_law_485 rfl ?_
        refine w_bipush (v := 32) (q := 488) aL_law_486 rfl rfl ?_
        refine w_lshl (q := 489) aL_law_488 rfl ?_
        refine w_aload_n (q := 490) aL_law_489 rfl rfl ?_
        refine w_iload_n (q := 491) aL_law_490 rfl rfl ?_
        refine w_iconst (v := 3) (q := 492) aL_law_491 rfl rfl ?_
        refine w_iadd (q := 493) aL_law_492 rfl ?_
        refine w_sld (n := i + 3) (q := 494) aL_law_493 (nI_p3 i) (by omega) hx3 rfl ?_
        refine w_i2l (q := 495) aL_law_494 rfl ?_
        refine w_ldc (q := 498) aL_law_495 l_5_13 rfl ?_
        refine w_land (q := 499) aL_law_498 rfl ?_
        refine w_lor (q := 500) aL_law_499 rfl ?_
        refine w_callV aL_law_500 t_5_59 (this_at rfl ec1) (rfl) (d_act hL hMb hR1) (fun r500 h500 hp => ?_)
        obtain ⟨rfl, ⟨X2, hR2⟩, hf2⟩ := hp
        refine w_ic_eq (t := 634) (q := 506) aL_law_503 (by decide) rfl (fun c503 => ?_) (fun c503 => ?_)
        · refine nx _ X2 _ (hL.act hMb) (hC1.kept (fun q hq => hf2.2.2 q (AC_AM hq))) hR2 ?_ ?_ ?_
          · rw [hf2.1, hf1.1, e1, pm_do hL.1 _ _]
          · rw [pm_do hL.1 _ _]; exact e2m
          · rw [hf2.2.1, hf1.2.1, pm_do hL.1 _ _]; exact e2
        · exact absurd rfl c503
      · refine w_table (t := 508) (o := 476) aL_law_32 (by skip; decide) (by skip; decide) (by skip; rfl) (by decide) ?_
        refine w_aload_n (q := 509) aL_law_508 rfl rfl ?_
        refine w_aload_n (q := 510) aL_law_509 rfl rfl ?_
        refine w_iload_n (q := 511) aL_law_510 rfl rfl ?_
        refine w_iconst (v := 1) (q := 512) aL_law_511 rfl rfl ?_
        refine w_iadd (q := 513) aL_law_512 rfl ?_
        refine w_sld (n := i + 1) (q := 514) aL_law_513 (nI_1 i) (by omega) hx1 rfl ?_
        refine w_callV aL_law_514 t_5_60 (this_at rfl hC.ho) (rfl) (c_get hC) (fun r514 h514 hp => ?_)
        obtain ⟨rfl, rfl⟩ := hp
        obtain ⟨c1, ec1⟩ := r_cell hR
        refine w_aload_n (q := 518) aL_law_517 rfl rfl ?_
        refine w_aload_n (q := 519) aL_law_518 rfl rfl ?_
        refine w_iload_n (q := 520) aL_law_519 rfl rfl ?_
        refine w_iconst (v := 1) (q := 521) aL_law_520 rfl rfl ?_
        refine w_iadd (q := 522) aL_law_521 rfl ?_
        refine w_sld (n := i + 1) (q := 523) aL_law_522 (nI_1 i) (by omega) hx1 rfl ?_
        refine w_callV aL_law_523 t_5_64 (this_at rfl ec1) (rfl) (d_get hR) (fun r523 h523 hp => ?_)
        obtain ⟨rfl, rfl⟩ := hp
        refine w_lcmp (q := 527) aL_law_526 rfl ?_
        refine w_if_eq (t := 634) (q := 530) aL_law_527 (by decide) rfl (fun c527 => ?_) (fun c527 => ?_)
        · exact nx S X _ (hL.mono (by omega)) hC hR e1 e2m e2
        · exact absurd ((lg_cmp_eq _ _).mpr rfl) c527
      · refine w_table (t := 532) (o := 500) aL_law_32 (by skip; decide) (by skip; decide) (by skip; rfl) (by decide) ?_
        refine w_aload_n (q := 533) aL_law_532 rfl rfl ?_
        refine w_aload_n (q := 534) aL_law_533 rfl rfl ?_
        refine w_iload_n (q := 535) aL_law_534 rfl rfl ?_
        refine w_iconst (v := 1) (q := 536) aL_law_535 rfl rfl ?_
        refine w_iadd (q := 537) aL_law_536 rfl ?_
        refine w_sld (n := i + 1) (q := 538) aL_law_537 (nI_1 i) (by omega) hx1 rfl ?_
        refine w_aload_n (q := 539) aL_law_538 rfl rfl ?_
        refine w_iload_n (q := 540) aL_law_539 rfl rfl ?_
        refine w_iconst (v := 2) (q := 541) aL_law_540 rfl rfl ?_
        refine w_iadd (q := 542) aL_law_541 rfl ?_
        refine w_sld (n := i + 2) (q := 543) aL_law_542 (nI_p2 i) (by omega) hx2 rfl ?_
        refine w_callV aL_law_543 t_5_65 (this_at rfl hC.ho) (rfl) (c_line hC) (fun r543 h543 hp => ?_)
        obtain ⟨rfl, rfl⟩ := hp
        obtain ⟨c1, ec1⟩ := r_cell hR
        refine w_aload_n (q := 547) aL_law_546 rfl rfl ?_
        refine w_aload_n (q := 548) aL_law_547 rfl rfl ?_
        refine w_iload_n (q := 549) aL_law_548 rfl rfl ?_
        refine w_iconst (v := 1) (q := 550) aL_law_549 rfl rfl ?_
        refine w_iadd (q := 551) aL_law_550 rfl ?_
        refine w_sld (n := i + 1) (q := 552) aL_law_551 (nI_1 i) (by omega) hx1 rfl ?_
        refine w_aload_n (q := 553) aL_law_552 rfl rfl ?_
        refine w_iload_n (q := 554) aL_law_553 rfl rfl ?_
        refine w_iconst (v := 2) (q := 555) aL_law_554 rfl rfl ?_
        refine w_iadd (q := 556) aL_law_555 rfl ?_
        refine w_sld (n := i + 2) (q := 557) aL_law_556 (nI_p2 i) (by omega) hx2 rfl ?_
        refine w_callV aL_law_557 t_5_68 (this_at rfl ec1) (rfl) (d_line hR) (fun r557 h557 hp => ?_)
        obtain ⟨rfl, rfl⟩ := hp
        refine w_ic_eq (t := 634) (q := 563) aL_law_560 (by decide) rfl (fun c560 => ?_) (fun c560 => ?_)
        · exact nx S X _ (hL.mono (by omega)) hC hR e1 e2m e2
        · exact absurd rfl c560
      · refine w_table (t := 565) (o := 533) aL_law_32 (by skip; decide) (by skip; decide) (by skip; rfl) (by decide) ?_
        refine w_aload_n (q := 566) aL_law_565 rfl rfl ?_
        refine w_aload_n (q := 567) aL_law_566 rfl rfl ?_
        refine w_iload_n (q := 568) aL_law_567 rfl rfl ?_
        refine w_iconst (v := 1) (q := 569) aL_law_568 rfl rfl ?_
        refine w_iadd (q := 570) aL_law_569 rfl ?_
        refine w_sld (n := i + 1) (q := 571) aL_law_570 (nI_1 i) (by omega) hx1 rfl ?_
        refine w_callV aL_law_571 t_5_69 (this_at rfl hC.ho) (rfl) (c_queued hC) (fun r571 h571 hp => ?_)
        obtain ⟨rfl, rfl⟩ := hp
        obtain ⟨c1, ec1⟩ := r_cell hR
        refine w_aload_n (q := 575) aL_law_574 rfl rfl ?_
        refine w_aload_n (q := 576) aL_law_575 rfl rfl ?_
        refine w_iload_n (q := 577) aL_law_576 rfl rfl ?_
        refine w_iconst (v := 1) (q := 578) aL_law_577 rfl rfl ?_
        refine w_iadd (q := 579) aL_law_578 rfl ?_
        refine w_sld (n := i + 1) (q := 580) aL_law_579 (nI_1 i) (by omega) hx1 rfl ?_
        refine w_callV aL_law_580 t_5_72 (this_at rfl ec1) (rfl) (d_queued hR) (fun r580 h580 hp => ?_)
        obtain ⟨rfl, rfl⟩ := hp
        refine w_ic_eq (t := 634) (q := 586) aL_law_583 (by decide) rfl (fun c583 => ?_) (fun c583 => ?_)
        · exact nx S X _ (hL.mono (by omega)) hC hR e1 e2m e2
        · exact absurd rfl c583
      · refine w_table (t := 588) (o := 556) aL_law_32 (by skip; decide) (by skip; decide) (by skip; rfl) (by decide) ?_
        refine w_aload_n (q := 589) aL_law_588 rfl rfl ?_
        refine w_aload_n (q := 590) aL_law_589 rfl rfl ?_
        refine w_iload_n (q := 591) aL_law_590 rfl rfl ?_
        refine w_iconst (v := 1) (q := 592) aL_law_591 rfl rfl ?_
        refine w_iadd (q := 593) aL_law_592 rfl ?_
        refine w_sld (n := i + 1) (q := 594) aL_law_593 (nI_1 i) (by omega) hx1 rfl ?_
        refine w_callV aL_law_594 t_5_73 (this_at rfl hC.ho) (rfl) (c_count hC) (fun r594 h594 hp => ?_)
        obtain ⟨rfl, rfl⟩ := hp
        obtain ⟨c1, ec1⟩ := r_cell hR
        refine w_aload_n (q := 598) aL_law_597 rfl rfl ?_
        refine w_aload_n (q := 599) aL_law_598 rfl rfl ?_
        refine w_iload_n (q := 600) aL_law_599 rfl rfl ?_
        refine w_iconst (v := 1) (q := 601) aL_law_600 rfl rfl ?_
        refine w_iadd (q := 602) aL_law_601 rfl ?_
        refine w_sld (n := i + 1) (q := 603) aL_law_602 (nI_1 i) (by omega) hx1 rfl ?_
        refine w_callV aL_law_603 t_5_76 (this_at rfl ec1) (rfl) (d_count hR) (fun r603 h603 hp => ?_)
        obtain ⟨rfl, rfl⟩ := hp
        refine w_ic_eq (t := 634) (q := 609) aL_law_606 (by decide) rfl (fun c606 => ?_) (fun c606 => ?_)
        · exact nx S X _ (hL.mono (by omega)) hC hR e1 e2m e2
        · exact absurd rfl c606
      · refine w_table (t := 611) (o := 579) aL_law_32 (by skip; decide) (by skip; decide) (by skip; rfl) (by decide) ?_
        refine w_aload_n (q := 612) aL_law_611 rfl rfl ?_
        refine w_aload_n (q := 613) aL_law_612 rfl rfl ?_
        refine w_iload_n (q := 614) aL_law_613 rfl rfl ?_
        refine w_iconst (v := 1) (q := 615) aL_law_614 rfl rfl ?_
        refine w_iadd (q := 616) aL_law_615 rfl ?_
        refine w_sld (n := i + 1) (q := 617) aL_law_616 (nI_1 i) (by omega) hx1 rfl ?_
        refine w_callV aL_law_617 t_5_77 (this_at rfl hC.ho) (rfl) (c_done h40 hC) (fun r617 h617 hp => ?_)
        obtain ⟨rfl, rfl⟩ := hp
        obtain ⟨c1, ec1⟩ := r_cell hR
        refine w_aload_n (q := 621) aL_law_620 rfl rfl ?_
        refine w_aload_n (q := 622) aL_law_621 rfl rfl ?_
        refine w_iload_n (q := 623) aL_law_622 rfl rfl ?_
        refine w_iconst (v := 1) (q := 624) aL_law_623 rfl rfl ?_
        refine w_iadd (q := 625) aL_law_624 rfl ?_
        refine w_sld (n := i + 1) (q := 626) aL_law_625 (nI_1 i) (by omega) hx1 rfl ?_
        refine w_callV aL_law_626 t_5_80 (this_at rfl ec1) (rfl) (d_done h40 hR) (fun r626 h626 hp => ?_)
        obtain ⟨rfl, rfl⟩ := hp
        refine w_ic_eq (t := 634) (q := 632) aL_law_629 (by decide) rfl (fun c629 => ?_) (fun c629 => ?_)
        · exact nx S X _ (hL.mono (by omega)) hC hR e1 e2m e2
        · exact absurd rfl c629
      · refine w_tableD (t := 634) aL_law_32 (by decide) (by decide) ?_
        exact nx S X h (hL.mono (by omega)) hC hR e1 e2m e2
theorem RC.low {S : St} {h h' : mm_H} (r : RC S h) (ha : ∀ k, k < sM S → aa k < 32) (e : ∀ q, q < 32 → h'.2.2 q = h.2.2 q) : RC S h' := by
  refine ⟨(e _ (by omega)).trans r.ho, (e _ (by omega)).trans r.ta, (e _ (by omega)).trans r.be, r.qu.kept (fun a ha => e a (by omega)), (e _ (by omega)).trans r.ow, (e _ (by omega)).trans r.ha, (e _ (by omega)).trans r.ro, fun d hd => ?_, fun k hk => ?_, fun k hk => (e _ (ha k hk)).trans (r.ac hk)⟩
  · obtain ⟨rr, h1, h2⟩ := r.rw hd
    exact ⟨rr, h1, (e _ (by omega)).trans h2⟩
  · obtain ⟨g, hg⟩ := r.bel hk
    exact ⟨g, hg.kept (e _ (by omega)) (e _ (by omega))⟩
theorem lv02 : Lv 0 s02 := by
  have l0 : Lv 0 s00 := ⟨⟨by decide, (fun j k hk => by cases hk), fun k hk => absurd hk (Nat.not_lt_zero _), (fun k hk x hx => by cases hx), (fun e he => by cases he), by decide, by decide⟩, rfl, fun k _ => Or.inl rfl, fun k => Nat.le_refl _⟩
  exact (l0.make (s := 0) (a := 0) (b := 0) (by decide) (by unfold p_can; decide)).make (s := 7) (a := 0) (b := 0) (by decide) (by unfold p_can; decide)
theorem mm_law : mm_Law := by
  intro xs hxl
  refine w_new (q := 3) aL_law_0 k_5_7 (by decide) rfl ?_
  refine w_dup (q := 4) aL_law_3 rfl rfl ?_
  refine w_callI aL_law_4 o_5_9 t_5_9 (by decide) (this_at rfl (new_s mm_h0 (3, mm_df 3))) (rfl) (c_init (h := mm_new mm_h0 (3, mm_df 3)) (sl := 17) rfl rfl (Nat.le_of_ble_eq_true rfl)) (fun r4 h4 hp => ?_)
  obtain ⟨rfl, hC, e1, e2⟩ := hp
  refine w_astore_n (q := 8) (ls' := [(1, _), (0, _)]) aL_law_7 (by decide) rfl rfl ?_
  refine w_new (q := 11) aL_law_8 k_5_10 (by decide) rfl ?_
  rw [e1]
  refine w_dup (q := 12) aL_law_11 rfl rfl ?_
  have hb : (mm_new h4 (4, mm_df 4)).2.2 32 = some (4, mm_df 4) := by
    rw [← e1]
    exact new_s _ _
  refine w_callI aL_law_12 o_5_12 t_5_12 (by decide) (this_at rfl hb) (rfl) (d_init (h := mm_new h4 (4, mm_df 4)) (sl := 1048) (by show h4.1 + 1 = 33; rw [e1]) hb (by show h4.2.1 + 31 ≤ 1048; omega)) (fun r12 h12 hp => ?_)
  obtain ⟨rfl, ⟨X, hR⟩, g1, g2, g3⟩ := hp
  refine w_astore_n (q := 16) (ls' := [(2, _), (1, _), (0, _)]) aL_law_15 (by decide) rfl rfl ?_
  refine w_iconst (v := 0) (q := 17) aL_law_16 rfl rfl ?_
  refine w_istore_n (q := 18) (ls' := [(3, _), (2, _), (1, _), (0, _)]) aL_law_17 (by decide) rfl rfl ?_
  have hC2 : RC s02 h12 := by
    have hq : ∀ q, q < 32 → h12.2.2 q = h4.2.2 q := fun q hq => (g3 q hq).trans (new_n (by omega))
    exact hC.low (fun k hk => by have h2 : k < 2 := hk; unfold aa; rw [if_pos h2]; omega) hq
  refine (l_law hxl xs.length 0 h12 s02 X 0 (by omega) (Nat.zero_le _) lv02 (by omega) hC2 hR g1 (by decide) (by show h12.2.1 ≤ 30000 + 7 * 2; omega)).ls (Rl.cons (Rl.cons (Rl.cons (Rl.cons Rl.nil rfl) rfl) rfl) rfl)
