theorem fP.pre {q : Int32 × St} {S S1 : St} {h h1 h' : mm_H} {r : Option Value} (hsd : sD S1 = sD S) (hf : fr AC h h1) (hro : ∀ e, e < 8 → h1.2.2 (10 + e) = h.2.2 (10 + e)) (h8 : sD S ≤ 8) (hp : fP q S1 h1 r h') : fP q S h r h' := ⟨hp.1, hp.2.1, hf.tr hp.2.2.1, fun e he => (hp.2.2.2 e (by omega)).trans (hro e (by omega))⟩
theorem c_perform : ∀ n, PerfOK n := by
  intro n
  induction n with
  | zero =>
    intro F h S o v hF ho hR hk hn
    have := ho.2.2.2.2.2.2
    omega
  | succ n ih =>
    intro F h S o v hF ho hR hk hn
    obtain ⟨G, rfl⟩ : ∃ G, F = G + 6 := ⟨F - 6, by omega⟩
    cases o with
    | none =>
      show mW none (G + 6) mX3_perform 0 [(0, .ref 1), (1, va_rf none), (2, .long v)] [] h (fP (3, S) S h)
      refine w_aload_nQ (v := none) (q := 1) aX3_perform_0 rfl rfl ?_
      refine w_nonnull (t := 6) (q := 4) aX3_perform_1 (by decide) rfl (fun v1 c1 => ?_) (fun c1 => ?_)
      · cases c1
      · refine w_iconst (v := 3) (q := 5) aX3_perform_4 rfl rfl ?_
        refine w_iret aX3_perform_5 rfl ?_
        exact ⟨rfl, hR, fr.rf, fun _ _ => rfl⟩
    | some k =>
      have hkm := hk k rfl
      have hA := ho.2.2.1 k hkm
      have hss := ho.2.2.2.2.2.2
      have hsd := ho.2.2.2.2.2.1
      obtain ⟨j, hj, ej⟩ := rN_sort hA
      have hcan := hA.1
      rw [ej] at hcan
      have hak := aa_or k
      show mW none (G + 6) mX3_perform 0 [(0, .ref 1), (1, va_rf (some (aa k))), (2, .long v)] [] h (fP (if 200 ≤ sS S then (6, S) else m_pf (m_perf n) (sA S k).1.toNatClampNeg (m_begin S k) k (sA S k) v) S h)
      refine w_aload_nQ (v := some (aa k)) (q := 1) aX3_perform_0 rfl rfl ?_
      refine w_nonnull (t := 6) (q := 4) aX3_perform_1 (by decide) rfl (fun v1 c1 => ?_) (fun c1 => ?_)
      · show mW none (G + 6) mX3_perform 6 [(0, .ref 1), (1, .ref (aa k)), (2, .long v)] [] h _
        refine w_aload_n (q := 7) aX3_perform_6 rfl rfl ?_
        refine w_get (q := 10) aX3_perform_7 f_3_77 (hR.ho) rfl rfl ?_
        refine w_sipush (v := 200) (q := 13) aX3_perform_10 rfl rfl ?_
        refine w_ic_lt (t := 19) (q := 16) aX3_perform_13 (by decide) rfl (fun c13 => ?_) (fun c13 => ?_)
        · have hs2 : sS S < 200 := (nI_ltI (b := 200) (by omega) (by omega)).mp c13
          rw [if_neg (by omega), ej, nI_clamp (by omega)]
          refine w_aload_n (q := 20) aX3_perform_19 rfl rfl ?_
          refine w_dup (q := 21) aX3_perform_20 rfl rfl ?_
          refine w_get (q := 24) aX3_perform_21 f_3_77 (hR.ho) rfl rfl ?_
          refine w_iconst (v := 1) (q := 25) aX3_perform_24 rfl rfl ?_
          refine w_iadd (q := 26) aX3_perform_25 rfl ?_
          refine w_put (q := 29) (fs' := [_, _, _, _, _, _, _, _, _, _, _, _, _, _, _, _, _]) aX3_perform_26 f_3_77 (hR.ho) (Nat.le_of_ble_eq_true rfl) rfl rfl (Or.inl rfl) rfl rfl ?_
          have r1 := hR.upHo (S' := uS S (sS S + 1)) (c := [.ref 2, .ref 3, .ref 4, .ref 7, .ref 8, .int (nI (sM S)), .ref 9, .int (nI (sD S)), .int (nI (sS S) + 1), .int (sC S 1), .int (sC S 2), .int (sC S 3), .int (sC S 4), .int (sC S 5), .int (sC S 6), .int (sC S 8), .int (sC S 9)]) (by rw [nI_1]; rfl) ⟨rfl, rfl, rfl, rfl, rfl, rfl, rfl, rfl⟩
          refine w_aload_n (q := 30) aX3_perform_29 rfl rfl ?_
          refine w_dup (q := 31) aX3_perform_30 rfl rfl ?_
          refine w_get (q := 34) aX3_perform_31 f_3_103 (r1.ho) rfl rfl ?_
          refine w_iconst (v := 1) (q := 35) aX3_perform_34 rfl rfl ?_
          refine w_iadd (q := 36) aX3_perform_35 rfl ?_
          refine w_put (q := 39) (fs' := [_, _, _, _, _, _, _, _, _, _, _, _, _, _, _, _, _]) aX3_perform_36 f_3_103 (r1.ho) (Nat.le_of_ble_eq_true rfl) rfl rfl (Or.inl rfl) rfl rfl ?_
          have r2 := r1.upHo (S' := uC (uS S (sS S + 1)) (inc (sC S) 1)) rfl ⟨rfl, rfl, rfl, rfl, rfl, rfl, rfl, rfl⟩
          refine w_aload_n (q := 40) aX3_perform_39 rfl rfl ?_
          refine w_dup (q := 41) aX3_perform_40 rfl rfl ?_
          refine w_get (q := 44) aX3_perform_41 f_3_127 (r2.ac hkm) rfl rfl ?_
          refine w_iconst (v := 1) (q := 45) aX3_perform_44 rfl rfl ?_
          refine w_iadd (q := 46) aX3_perform_45 rfl ?_
          refine w_put (q := 49) (fs' := [_, _, _, _, _, _, _]) aX3_perform_46 f_3_127 (r2.ac hkm) (Nat.le_of_ble_eq_true rfl) rfl rfl (Or.inl rfl) rfl rfl ?_
          have r3 := r2.upAc (k := k) (n := sB S k + 1) (c := [.int (sA S k).1, .int (sA S k).2.1, .int (sA S k).2.2.1, .long (sA S k).2.2.2.1, va_rf ((sA S k).2.2.2.2.1.map aa), va_rf ((sA S k).2.2.2.2.2.map aa), .int (nI (sB S k) + 1)]) hkm (by rw [nI_1]; rfl)
          have hfr : fr AC h (mm_up (mm_up (mm_up h 1 (3, [.ref 2, .ref 3, .ref 4, .ref 7, .ref 8, .int (nI (sM S)), .ref 9, .int (nI (sD S)), .int (nI (sS S) + 1), .int (sC S 1), .int (sC S 2), .int (sC S 3), .int (sC S 4), .int (sC S 5), .int (sC S 6), .int (sC S 8), .int (sC S 9)])) 1 (3, hoL (uC (uS S (sS S + 1)) (inc (sC S) 1)))) (aa k) (0, [.int (sA S k).1, .int (sA S k).2.1, .int (sA S k).2.2.1, .long (sA S k).2.2.2.1, va_rf ((sA S k).2.2.2.2.1.map aa), va_rf ((sA S k).2.2.2.2.2.map aa), .int (nI (sB S k) + 1)])) := ((fr.rf.up (Or.inl (by omega))).up (Or.inl (by omega))).up (AC_aa k)
          have hro : ∀ e, e < 8 → (mm_up (mm_up (mm_up h 1 (3, [.ref 2, .ref 3, .ref 4, .ref 7, .ref 8, .int (nI (sM S)), .ref 9, .int (nI (sD S)), .int (nI (sS S) + 1), .int (sC S 1), .int (sC S 2), .int (sC S 3), .int (sC S 4), .int (sC S 5), .int (sC S 6), .int (sC S 8), .int (sC S 9)])) 1 (3, hoL (uC (uS S (sS S + 1)) (inc (sC S) 1)))) (aa k) (0, [.int (sA S k).1, .int (sA S k).2.1, .int (sA S k).2.2.1, .long (sA S k).2.2.2.1, va_rf ((sA S k).2.2.2.2.1.map aa), va_rf ((sA S k).2.2.2.2.2.map aa), .int (nI (sB S k) + 1)])).2.2 (10 + e) = h.2.2 (10 + e) := fun e he => (up_n (by omega)).trans ((up_n (by omega)).trans (up_n (by omega)))
          show mW none (G + 6) mX3_perform 49 _ [] (mm_up (mm_up (mm_up h 1 (3, [.ref 2, .ref 3, .ref 4, .ref 7, .ref 8, .int (nI (sM S)), .ref 9, .int (nI (sD S)), .int (nI (sS S) + 1), .int (sC S 1), .int (sC S 2), .int (sC S 3), .int (sC S 4), .int (sC S 5), .int (sC S 6), .int (sC S 8), .int (sC S 9)])) 1 (3, hoL (uC (uS S (sS S + 1)) (inc (sC S) 1)))) (aa k) (0, [.int (sA S k).1, .int (sA S k).2.1, .int (sA S k).2.2.1, .long (sA S k).2.2.2.1, va_rf ((sA S k).2.2.2.2.1.map aa), va_rf ((sA S k).2.2.2.2.2.map aa), .int (nI (sB S k) + 1)])) _
          replace r3 : RC (m_begin S k) _ := r3
          generalize (mm_up (mm_up (mm_up h 1 (3, [.ref 2, .ref 3, .ref 4, .ref 7, .ref 8, .int (nI (sM S)), .ref 9, .int (nI (sD S)), .int (nI (sS S) + 1), .int (sC S 1), .int (sC S 2), .int (sC S 3), .int (sC S 4), .int (sC S 5), .int (sC S 6), .int (sC S 8), .int (sC S 9)])) 1 (3, hoL (uC (uS S (sS S + 1)) (inc (sC S) 1)))) (aa k) (0, [.int (sA S k).1, .int (sA S k).2.1, .int (sA S k).2.2.1, .long (sA S k).2.2.2.1, va_rf ((sA S k).2.2.2.2.1.map aa), va_rf ((sA S k).2.2.2.2.2.map aa), .int (nI (sB S k) + 1)])) = h1 at r3 hfr hro ⊢
          clear r1 r2
          have g0 : Go S (m_begin S k) := Go.begin (by omega)
          have o0 := g0.1 ho
          have hn0 : 201 ≤ n + sS (m_begin S k) := by show 201 ≤ n + (sS S + 1); omega
          have hkm0 : k < sM (m_begin S k) := hkm
          have hB : sB (m_begin S k) k = sB S k + 1 := fu_s
          have eA : sA (m_begin S k) k = sA S k := rfl
          generalize hS1 : m_begin S k = S1 at *
          have hac := r3.ac hkm0
          rw [eA] at hac
          have K : ∀ {q r h'}, fP q S1 h1 r h' → fP q S h r h' := fun hp => fP.pre g0.2.1.2.2.2.2 hfr hro hsd hp
          have dflt : m_pf (m_perf n) j S1 k (sA S k) v = m_al j S1 (sA S k) v → (¬ j = 5 ∧ ¬ (8 ≤ j ∧ j ≤ 12)) → mW none (G + 6) mX3_perform 245 [(0, .ref 1), (1, .ref (aa k)), (2, .long v)] [] h1 (fP (m_pf (m_perf n) j S1 k (sA S k) v) S h) := fun e hne => by
            rw [e]
            refine w_aload_n (q := 246) aX3_perform_245 rfl rfl ?_
            refine w_aload_n (q := 247) aX3_perform_246 rfl rfl ?_
            refine w_lload_n (q := 248) aX3_perform_247 rfl rfl ?_
            refine w_callV aX3_perform_248 t_3_186 (this_at rfl r3.ho) (rfl) (c_alone o0 hkm0 r3 (eA ▸ ej) hj hne) (fun r248 h248 hp => ?_)
            rw [eA] at hp
            have hp2 := K (fP.of o0 hp)
            obtain ⟨rfl, -, -⟩ := hp
            refine w_iret aX3_perform_251 rfl ?_
            exact hp2
          refine w_aload_n (q := 50) aX3_perform_49 rfl rfl ?_
          refine w_get (q := 53) aX3_perform_50 f_3_160 (hac) rfl rfl ?_
          rw [ej]
          have hcs : j = 5 ∨ j = 8 ∨ j = 9 ∨ j = 10 ∨ j = 11 ∨ j = 12 ∨ j = 6 ∨ j = 7 ∨ j = 0 ∨ j = 1 ∨ j = 2 ∨ j = 3 ∨ j = 4 ∨ j = 13 ∨ j = 14 := by omega
          rcases hcs with rfl | rfl | rfl | rfl | rfl | rfl | rfl | rfl | rfl | rfl | rfl | rfl | rfl | rfl | rfl
          · obtain ⟨i, hi, ei⟩ := rN_of (by omega) (can_5.mpr hcan)
            rw [m_pf_5]
            refine w_table (t := 100) (o := 47) aX3_perform_53 (by skip; decide) (by skip; decide) (by skip; rfl) (by decide) ?_
            refine w_aload_n (q := 101) aX3_perform_100 rfl rfl ?_
            refine w_aload_n (q := 102) aX3_perform_101 rfl rfl ?_
            refine w_get (q := 105) aX3_perform_102 f_3_163 (hac) rfl rfl ?_
            refine w_lload_n (q := 106) aX3_perform_105 rfl rfl ?_
            refine w_aload_n (q := 107) aX3_perform_106 rfl rfl ?_
            refine w_get (q := 110) aX3_perform_107 f_3_166 (hac) rfl rfl ?_
            refine w_i2l (q := 111) aX3_perform_110 rfl ?_
            refine w_ladd (q := 112) aX3_perform_111 rfl ?_
            rw [ei, nI_clamp (by omega)]
            refine w_callV aX3_perform_112 t_3_80 (this_at rfl r3.ho) (rfl) (c_ringBell ih (by omega) o0 r3 hi hn0) (fun r112 h112 hp => ?_)
            have hp2 := K hp
            obtain ⟨rfl, -, -⟩ := hp
            refine w_iret aX3_perform_115 rfl ?_
            exact hp2
          · rw [m_pf_8, hB]
            refine w_table (t := 116) (o := 63) aX3_perform_53 (by skip; decide) (by skip; decide) (by skip; rfl) (by decide) ?_
            refine w_aload_n (q := 117) aX3_perform_116 rfl rfl ?_
            refine w_get (q := 120) aX3_perform_117 f_3_127 (hac) rfl rfl ?_
            refine w_aload_n (q := 121) aX3_perform_120 rfl rfl ?_
            refine w_get (q := 124) aX3_perform_121 f_3_166 (hac) rfl rfl ?_
            rw [hB]
            refine w_ic_gt (t := 139) (q := 127) aX3_perform_124 (by decide) rfl (fun c124 => ?_) (fun c124 => ?_)
            · rw [if_neg (fun z => k2_nlt z c124)]
              refine w_iconst (v := 0) (q := 140) aX3_perform_139 rfl rfl ?_
              refine w_iret aX3_perform_140 rfl ?_
              exact K ⟨rfl, r3, fr.rf, fun _ _ => rfl⟩
            · rw [if_pos (k2_le c124)]
              refine w_aload_n (q := 128) aX3_perform_127 rfl rfl ?_
              refine w_aload_n (q := 129) aX3_perform_128 rfl rfl ?_
              refine w_get (q := 132) aX3_perform_129 f_3_169 (hac) rfl rfl ?_
              refine w_lload_n (q := 133) aX3_perform_132 rfl rfl ?_
              refine w_callV aX3_perform_133 t_3_90 (this_at rfl r3.ho) (call3 (by decide) (Nat.le_of_ble_eq_true rfl)) ((by rw [lvA3]; exact ih _ h1 S1 (sA S k).2.2.2.2.1 v (by omega) o0 r3 (fun q hq => g0.2.1.1 ▸ hA.2.1 q hq) hn0)) (fun r133 h133 hp => ?_)
              have hp2 := K hp
              obtain ⟨rfl, -, -⟩ := hp
              refine w_goto (t := 140) aX3_perform_136 (by decide) ?_
              refine w_iret aX3_perform_140 rfl ?_
              exact hp2
          · rw [m_pf_9, hB]
            refine w_table (t := 141) (o := 88) aX3_perform_53 (by skip; decide) (by skip; decide) (by skip; rfl) (by decide) ?_
            refine w_aload_n (q := 142) aX3_perform_141 rfl rfl ?_
            refine w_get (q := 145) aX3_perform_142 f_3_127 (hac) rfl rfl ?_
            refine w_aload_n (q := 146) aX3_perform_145 rfl rfl ?_
            refine w_get (q := 149) aX3_perform_146 f_3_166 (hac) rfl rfl ?_
            rw [hB]
            refine w_iconst (v := 1) (q := 150) aX3_perform_149 rfl rfl ?_
            refine w_maxI (q := 153) aX3_perform_150 x_3_173 (Nat.le_of_ble_eq_true rfl) rfl ?_
            have hne : ¬ (if (sA S k).2.2.1 < 1 then (1 : Int32) else (sA S k).2.2.1) = 0 := by
              split
              · decide
              · rename_i hb
                intro e
                rw [e] at hb
                exact hb (by decide)
            refine w_irem (q := 154) aX3_perform_153 (hne) rfl ?_
            refine w_if_ne (t := 169) (q := 157) aX3_perform_154 (by decide) rfl (fun c154 => ?_) (fun c154 => ?_)
            · rw [if_neg c154]
              refine w_iconst (v := 0) (q := 170) aX3_perform_169 rfl rfl ?_
              refine w_iret aX3_perform_170 rfl ?_
              exact K ⟨rfl, r3, fr.rf, fun _ _ => rfl⟩
            · rw [if_pos c154]
              refine w_aload_n (q := 158) aX3_perform_157 rfl rfl ?_
              refine w_aload_n (q := 159) aX3_perform_158 rfl rfl ?_
              refine w_get (q := 162) aX3_perform_159 f_3_169 (hac) rfl rfl ?_
              refine w_lload_n (q := 163) aX3_perform_162 rfl rfl ?_
              refine w_callV aX3_perform_163 t_3_90 (this_at rfl r3.ho) (call3 (by decide) (Nat.le_of_ble_eq_true rfl)) ((by rw [lvA3]; exact ih _ h1 S1 (sA S k).2.2.2.2.1 v (by omega) o0 r3 (fun q hq => g0.2.1.1 ▸ hA.2.1 q hq) hn0)) (fun r163 h163 hp => ?_)
              have hp2 := K hp
              obtain ⟨rfl, -, -⟩ := hp
              refine w_goto (t := 170) aX3_perform_166 (by decide) ?_
              refine w_iret aX3_perform_170 rfl ?_
              exact hp2
          · obtain ⟨i, hi, ei⟩ := rN_of (by omega) (can_10.mpr hcan).2
            rw [m_pf_10]
            refine w_table (t := 171) (o := 118) aX3_perform_53 (by skip; decide) (by skip; decide) (by skip; rfl) (by decide) ?_
            refine w_aload_n (q := 172) aX3_perform_171 rfl rfl ?_
            refine w_get (q := 175) aX3_perform_172 f_3_9 (r3.ho) rfl rfl ?_
            refine w_aload_n (q := 176) aX3_perform_175 rfl rfl ?_
            refine w_get (q := 179) aX3_perform_176 f_3_166 (hac) rfl rfl ?_
            rw [ei, nI_clamp (by omega)]
            refine w_lald (q := 180) aX3_perform_179 (r3.ta) (mm_ix_at (n := i) rfl (by omega) (rg_at hi)) rfl ?_
            refine w_lconst (v := 0) (q := 181) aX3_perform_180 rfl rfl ?_
            refine w_lcmp (q := 182) aX3_perform_181 rfl ?_
            refine w_if_le (t := 197) (q := 185) aX3_perform_182 (by decide) rfl (fun c182 => ?_) (fun c182 => ?_)
            · rw [if_neg (Int64.not_lt.mpr ((lg_cmp_le _ _).mp c182))]
              refine w_iconst (v := 0) (q := 198) aX3_perform_197 rfl rfl ?_
              refine w_iret aX3_perform_198 rfl ?_
              exact K ⟨rfl, r3, fr.rf, fun _ _ => rfl⟩
            · rw [if_pos (Int64.not_le.mp (fun z => c182 ((lg_cmp_le _ _).mpr z)))]
              refine w_aload_n (q := 186) aX3_perform_185 rfl rfl ?_
              refine w_aload_n (q := 187) aX3_perform_186 rfl rfl ?_
              refine w_get (q := 190) aX3_perform_187 f_3_169 (hac) rfl rfl ?_
              refine w_lload_n (q := 191) aX3_perform_190 rfl rfl ?_
              refine w_callV aX3_perform_191 t_3_90 (this_at rfl r3.ho) (call3 (by decide) (Nat.le_of_ble_eq_true rfl)) ((by rw [lvA3]; exact ih _ h1 S1 (sA S k).2.2.2.2.1 v (by omega) o0 r3 (fun q hq => g0.2.1.1 ▸ hA.2.1 q hq) hn0)) (fun r191 h191 hp => ?_)
              have hp2 := K hp
              obtain ⟨rfl, -, -⟩ := hp
              refine w_goto (t := 198) aX3_perform_194 (by decide) ?_
              refine w_iret aX3_perform_198 rfl ?_
              exact hp2
          · rw [m_pf_11]
            have hgo := PfOk.perf n S1 (sA S k).2.2.2.2.1 v o0 (fun q hq => g0.2.1.1 ▸ hA.2.1 q hq)
            refine w_table (t := 199) (o := 146) aX3_perform_53 (by skip; decide) (by skip; decide) (by skip; rfl) (by decide) ?_
            refine w_aload_n (q := 200) aX3_perform_199 rfl rfl ?_
            refine w_aload_n (q := 201) aX3_perform_200 rfl rfl ?_
            refine w_get (q := 204) aX3_perform_201 f_3_169 (hac) rfl rfl ?_
            refine w_lload_n (q := 205) aX3_perform_204 rfl rfl ?_
            refine w_callV aX3_perform_205 t_3_90 (this_at rfl r3.ho) (call3 (by decide) (Nat.le_of_ble_eq_true rfl)) ((by rw [lvA3]; exact ih _ h1 S1 (sA S k).2.2.2.2.1 v (by omega) o0 r3 (fun q hq => g0.2.1.1 ▸ hA.2.1 q hq) hn0)) (fun r205 h205 hp => ?_)
            have hp2 := K hp
            obtain ⟨rfl, hR2, hf2, hro2⟩ := hp
            generalize hq1 : m_perf n S1 (sA S k).2.2.2.2.1 v = q1 at *
            obtain ⟨e1, S2⟩ := q1
            have o2 := hgo.1 o0
            have hkm2 : k < sM S2 := by have := hgo.2.1.1; dsimp only at this; omega
            have hac2 := hR2.ac hkm2
            have eA2 : sA S2 = sA S1 := hgo.2.1.2.1
            dsimp only at hac2
            rw [eA2, eA] at hac2
            refine w_istore (q := 210) (ls' := [(4, _), (0, _), (1, _), (2, _)]) aX3_perform_208 (by decide) rfl rfl ?_
            refine w_iload (q := 212) aX3_perform_210 rfl rfl ?_
            refine w_if_ne (t := 227) (q := 215) aX3_perform_212 (by decide) rfl (fun c212 => ?_) (fun c212 => ?_)
            · rw [if_neg c212]
              refine w_iload (q := 229) aX3_perform_227 rfl rfl ?_
              refine w_iret aX3_perform_229 rfl ?_
              exact hp2
            · rw [if_pos c212]
              have c212' : e1 = 0 := c212
              refine w_aload_n (q := 216) aX3_perform_215 rfl rfl ?_
              refine w_aload_n (q := 217) aX3_perform_216 rfl rfl ?_
              refine w_get (q := 220) aX3_perform_217 f_3_179 (hac2) rfl rfl ?_
              refine w_lload_n (q := 221) aX3_perform_220 rfl rfl ?_
              refine w_callV aX3_perform_221 t_3_90 (this_at rfl hR2.ho) (call3 (by decide) (Nat.le_of_ble_eq_true rfl)) ((by rw [lvA3]; exact ih _ h205 S2 (sA S k).2.2.2.2.2 v (by omega) o2 hR2 (fun q hq => by have := hgo.2.1.1; have h5 := hA.2.2 q hq; have h6 := g0.2.1.1; dsimp only at this; omega) (by have := hgo.2.2; dsimp only at this; omega))) (fun r221 h221 hp => ?_)
              obtain ⟨rfl, hR3, hf3, hro3⟩ := hp
              refine w_goto (t := 229) aX3_perform_224 (by decide) ?_
              refine w_iret aX3_perform_229 rfl ?_
              exact ⟨rfl, hR3, hp2.2.2.1.tr hf3, fun e he => (hro3 e (by have h5 := hgo.2.1.2.2.2.2; have h6 := g0.2.1.2.2.2.2; dsimp only at h5; omega)).trans (hp2.2.2.2 e he)⟩
          · obtain ⟨i, hi, ei⟩ := rN_of (by omega) (can_12.mpr hcan).2
            rw [m_pf_12, ei, nI_clamp (by omega)]
            have hgo := PfOk.perf n S1 (sA S k).2.2.2.2.1 v o0 (fun q hq => g0.2.1.1 ▸ hA.2.1 q hq)
            refine w_table (t := 230) (o := 177) aX3_perform_53 (by skip; decide) (by skip; decide) (by skip; rfl) (by decide) ?_
            refine w_aload_n (q := 231) aX3_perform_230 rfl rfl ?_
            refine w_aload_n (q := 232) aX3_perform_231 rfl rfl ?_
            refine w_aload_n (q := 233) aX3_perform_232 rfl rfl ?_
            refine w_aload_n (q := 234) aX3_perform_233 rfl rfl ?_
            refine w_get (q := 237) aX3_perform_234 f_3_169 (hac) rfl rfl ?_
            refine w_lload_n (q := 238) aX3_perform_237 rfl rfl ?_
            refine w_callV aX3_perform_238 t_3_90 (this_at rfl r3.ho) (call3 (by decide) (Nat.le_of_ble_eq_true rfl)) ((by rw [lvA3]; exact ih _ h1 S1 (sA S k).2.2.2.2.1 v (by omega) o0 r3 (fun q hq => g0.2.1.1 ▸ hA.2.1 q hq) hn0)) (fun r238 h238 hp => ?_)
            have hp2 := K hp
            obtain ⟨rfl, hR2, hf2, hro2⟩ := hp
            generalize hq1 : m_perf n S1 (sA S k).2.2.2.2.1 v = q1 at *
            obtain ⟨e1, S2⟩ := q1
            have hkm2 : k < sM S2 := by have := hgo.2.1.1; dsimp only at this; omega
            have eA2 : sA S2 = sA S1 := hgo.2.1.2.1
            refine w_callV aX3_perform_241 t_3_182 (this_at rfl hR2.ho) (rfl) (c_metByTry hkm2 hi (by rw [eA2, eA]; exact ei) hR2) (fun r241 h241 hp => ?_)
            obtain ⟨rfl, hR3, hf3⟩ := hp
            refine w_iret aX3_perform_244 rfl ?_
            exact ⟨rfl, hR3, hp2.2.2.1.tr (hf3.mono (fun _ z => z.1)), fun e he => (hf3.2.2 _ (fun z => z.2 (by omega))).trans (hp2.2.2.2 e he)⟩
          · refine w_table (t := 245) (o := 192) aX3_perform_53 (by skip; decide) (by skip; decide) (by skip; rfl) (by decide) ?_
            exact dflt rfl (by omega)
          · refine w_table (t := 245) (o := 192) aX3_perform_53 (by skip; decide) (by skip; decide) (by skip; rfl) (by decide) ?_
            exact dflt rfl (by omega)
          · refine w_tableD (t := 245) aX3_perform_53 (Or.inl (by decide)) (by decide) ?_
            exact dflt rfl (by omega)
          · refine w_tableD (t := 245) aX3_perform_53 (Or.inl (by decide)) (by decide) ?_
            exact dflt rfl (by omega)
          · refine w_tableD (t := 245) aX3_perform_53 (Or.inl (by decide)) (by decide) ?_
            exact dflt rfl (by omega)
          · refine w_tableD (t := 245) aX3_perform_53 (Or.inl (by decide)) (by decide) ?_
            exact dflt rfl (by omega)
          · refine w_tableD (t := 245) aX3_perform_53 (Or.inl (by decide)) (by decide) ?_
            exact dflt rfl (by omega)
          · refine w_tableD (t := 245) aX3_perform_53 (Or.inr (by decide)) (by decide) ?_
            exact dflt rfl (by omega)
          · refine w_tableD (t := 245) aX3_perform_53 (Or.inr (by decide)) (by decide) ?_
            exact dflt rfl (by omega)
        · have hs2 : 200 ≤ sS S := Nat.le_of_not_lt (fun z => c13 (nI_lt (b := 200) z (by omega)))
          rw [if_pos hs2]
          refine w_bipush (v := 6) (q := 18) aX3_perform_16 rfl rfl ?_
          refine w_iret aX3_perform_18 rfl ?_
          exact ⟨rfl, hR, fr.rf, fun _ _ => rfl⟩
      · cases c1
