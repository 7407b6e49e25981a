def r_does (S : St) (k : Nat) (v : Int64) (P : List Fr) : St × List Fr × Xs := if 200 ≤ sS S then (S, P, Xe 6 v) else r_do (sA S k).1.toNatClampNeg (m_begin S k) k (sA S k) v P
theorem Xe_0 (u : Int64) : Xe 0 u = (0, 0, -1, u) := rfl
theorem RM.upT {S : St} {P : List Fr} {X : Xs} {h : mm_H} {i : Nat} {t : Int64} (hR : RM S P X h) : RM (uT S (fu (sT S) i t)) P X (mm_up h 33 (6, rg 8 (fu (fun j => Value.long (sT S j)) i (.long t)))) := by
  obtain ⟨w, hm, r⟩ := hR
  refine ⟨w, hm.up (congrArg (fun z => ((6 : Nat), rg 8 z)) (fu_map Value.long _ _ _)) (fun q h1 h2 h3 => ?_), r⟩
  rcases q23 q h1 h2 with rfl | rfl | rfl | rfl | rfl | rfl | rfl | rfl | rfl | rfl | rfl | rfl | rfl | rfl | rfl | rfl | rfl | rfl | rfl | rfl | rfl | rfl | rfl <;> first | exact absurd rfl h3 | rfl
theorem rQu.put {S : St} {qb : Nat → Int32} {qv : Nat → Int64} {b : Int32} {v : Int64} (hl : (sQ S).length < 20) (h : rQu S qb qv) : rQu (uQ S (sQ S ++ [(b, v)])) (fu qb (sQ S).length b) (fu qv (sQ S).length v) := by
  refine ⟨by show (sQ S ++ [(b, v)]).length ≤ 20; simp; omega, fun i e he => ?_⟩
  have he2 : (sQ S ++ [(b, v)])[i]? = some e := he
  by_cases hi : i < (sQ S).length
  · rw [List.getElem?_append_left hi] at he2
    rw [fu_n (by omega), fu_n (by omega)]
    exact h.2 i e he2
  · have : i = (sQ S).length := by
      have := (List.getElem?_eq_some_iff.mp he2).1
      simp at this
      omega
    subst this
    simp at he2
    subst he2
    exact ⟨fu_s, fu_s⟩
set_option maxHeartbeats 1000000 in
theorem d_does {F : Nat} {h : mm_H} {S : St} {P : List Fr} {k : Nat} {v : Int64} (hk : k < sM S) (ho : Ok S) (hb : sB S k + 1 < 2 ^ 31) (hn : P.length < 600) (hR : RM S P (0, 0, nI k, v) h) : mW none (F + 3) mX4_does 0 [(0, .ref 32)] [] h (doP (r_does S k v P) h) := by
  have hM40 := ho.1
  have hA := ho.2.2.1 k hk
  have hcan := hA.1
  have hs200 := ho.2.2.2.2.2.2
  obtain ⟨s, hs15, hs⟩ := rN_sort hA
  rw [hs] at hcan
  obtain ⟨w, hm, r1, r2, r3, r4⟩ := hR
  unfold r_does
  refine w_aload_n (q := 1) aX4_does_0 rfl rfl ?_
  refine w_get (q := 4) aX4_does_1 f_4_133 (hm 32 (by decide) (by decide)) rfl rfl ?_
  refine w_istore_n (q := 5) (ls' := [(1, _), (0, _)]) aX4_does_4 (by decide) rfl rfl ?_
  refine w_aload_n (q := 6) aX4_does_5 rfl rfl ?_
  refine w_get (q := 9) aX4_does_6 f_4_136 (hm 32 (by decide) (by decide)) rfl rfl ?_
  refine w_lstore_n (q := 10) (ls' := [(2, _), (1, _), (0, _)]) aX4_does_9 (by decide) rfl rfl ?_
  refine w_aload_n (q := 11) aX4_does_10 rfl rfl ?_
  refine w_iconst (v := -1) (q := 12) aX4_does_11 rfl rfl ?_
  refine w_put (q := 15) (fs' := [_, _, _, _, _, _, _, _, _, _, _, _, _, _, _, _, _, _, _, _, _, _, _, _, _, _, _, _, _, _, _]) aX4_does_12 f_4_133 (hm 32 (by decide) (by decide)) (Nat.le_of_ble_eq_true rfl) rfl rfl (Or.inl rfl) rfl rfl ?_
  refine w_aload_n (q := 16) aX4_does_15 rfl rfl ?_
  refine w_get (q := 19) aX4_does_16 f_4_140 (up_s _ _ _) rfl rfl ?_
  refine w_sipush (v := 200) (q := 22) aX4_does_19 rfl rfl ?_
  refine w_ic_ne (t := 32) (q := 25) aX4_does_22 (by decide) rfl (fun c22 => ?_) (fun c22 => ?_)
  rotate_left
  · have h200 : sS S = 200 := (nI_iff (b := 200) (by omega) (by omega)).mp c22
    rw [if_pos (by omega)]
    refine w_aload_n (q := 26) aX4_does_25 rfl rfl ?_
    refine w_bipush (v := 6) (q := 28) aX4_does_26 rfl rfl ?_
    refine w_put (q := 31) (fs' := [_, _, _, _, _, _, _, _, _, _, _, _, _, _, _, _, _, _, _, _, _, _, _, _, _, _, _, _, _, _, _]) aX4_does_28 f_4_126 (up_s _ _ _) (Nat.le_of_ble_eq_true rfl) rfl rfl (Or.inl rfl) rfl rfl ?_
    refine w_vret aX4_does_31 rfl ?_
    refine ⟨rfl, ⟨w, ?_, r1, r2, r3, r4⟩, (fr.rf.up (AM_l (by omega))).up (AM_l (by omega))⟩
    intro q h1 h2
    rcases q23 q h1 h2 with rfl | rfl | rfl | rfl | rfl | rfl | rfl | rfl | rfl | rfl | rfl | rfl | rfl | rfl | rfl | rfl | rfl | rfl | rfl | rfl | rfl | rfl | rfl <;> first | exact hm _ h1 h2 |  rfl
  · have h200 : sS S < 200 := Nat.lt_of_le_of_ne hs200 (fun z => c22 (by show nI (sS S) = 200; rw [z]; rfl))
    rw [if_neg (by omega), hs, nI_clamp (by omega)]
    refine w_aload_n (q := 33) aX4_does_32 rfl rfl ?_
    refine w_dup (q := 34) aX4_does_33 rfl rfl ?_
    refine w_get (q := 37) aX4_does_34 f_4_140 (up_s _ _ _) rfl rfl ?_
    refine w_iconst (v := 1) (q := 38) aX4_does_37 rfl rfl ?_
    refine w_iadd (q := 39) aX4_does_38 rfl ?_
    refine w_put (q := 42) (fs' := [_, _, _, _, _, _, _, _, _, _, _, _, _, _, _, _, _, _, _, _, _, _, _, _, _, _, _, _, _, _, _]) aX4_does_39 f_4_140 (up_s _ _ _) (Nat.le_of_ble_eq_true rfl) rfl rfl (Or.inl rfl) rfl rfl ?_
    refine w_aload_n (q := 43) aX4_does_42 rfl rfl ?_
    refine w_get (q := 46) aX4_does_43 f_4_74 (up_s _ _ _) rfl rfl ?_
    refine w_iconst (v := 1) (q := 47) aX4_does_46 rfl rfl ?_
    refine w_dup2 (q := 48) aX4_does_47 ⟨rfl, rfl⟩ rfl ?_
    refine w_iald (q := 49) aX4_does_48 (by decide) ((up_n (by decide)).trans ((up_n (by decide)).trans (hm 54 (by decide) (by decide)))) (mm_ix_at (n := 1) rfl (by omega) (rg_at (by omega))) rfl ?_
    refine w_iconst (v := 1) (q := 50) aX4_does_49 rfl rfl ?_
    refine w_iadd (q := 51) aX4_does_50 rfl ?_
    refine w_iast (q := 52) (n := 1) (vs' := _) aX4_does_51 ((up_n (by decide)).trans ((up_n (by decide)).trans (hm 54 (by decide) (by decide)))) (rfl) (by rw [rg_len]; omega) (by rw [rg_len]; omega) (rg_set _ _ _ _) rfl ?_
    refine w_aload_n (q := 53) aX4_does_52 rfl rfl ?_
    refine w_get (q := 56) aX4_does_53 f_4_44 ((up_n (by decide)).trans (up_s _ _ _)) rfl rfl ?_
    refine w_iload_n (q := 57) aX4_does_56 rfl rfl ?_
    refine w_dup2 (q := 58) aX4_does_57 ⟨rfl, rfl⟩ rfl ?_
    refine w_iald (q := 59) aX4_does_58 (by decide) ((up_n (by decide)).trans ((up_n (by decide)).trans ((up_n (by decide)).trans (hm 44 (by decide) (by decide))))) (mm_ix_at (n := k) rfl (by omega) (rg_at (by omega))) rfl ?_
    refine w_iconst (v := 1) (q := 60) aX4_does_59 rfl rfl ?_
    refine w_iadd (q := 61) aX4_does_60 rfl ?_
    refine w_iast (q := 62) (n := k) (vs' := _) aX4_does_61 ((up_n (by decide)).trans ((up_n (by decide)).trans ((up_n (by decide)).trans (hm 44 (by decide) (by decide))))) (rfl) (by rw [rg_len]; omega) (by rw [rg_len]; omega) (rg_set _ _ _ _) rfl ?_
    rw [if_pos hk]
    have e44 : fu (fun j => Value.int (if j < sM S then nI (sB S j) else 0)) k (.int (nI (sB S k) + 1)) = fun j => Value.int (if j < sM S then nI (fu (sB S) k (sB S k + 1) j) else 0) := by
      rw [nI_1]
      exact fu_if (g := nI) (x := sB S k + 1) hk
    have e32 : moL (m_begin S k) P.length (0, 0, -1, v) = [.ref 33, .ref 34, .ref 35, .ref 36, .int (nI (sM S)), .ref 37, .ref 38, .ref 39, .ref 40, .ref 41, .ref 42, .ref 43, .ref 44, .ref 45, .ref 46, .ref 47, .int (nI (sQ S).length), .int (nI P.length), .ref 48, .ref 49, .ref 50, .ref 51, .ref 52, .ref 53, .int (nI (sD S)), .int (nI (sS S) + 1), .int 0, .int 0, .int (-1), .long v, .ref 54] := by rw [nI_1]; rfl
    have key : ∀ h2, Bg S k v P w h2 → fr AM h h2 → mW none (F + 3) mX4_does 62 [(2, .long v), (1, .int (nI k)), (0, .ref 32)] [] h2 (doP (r_do s (m_begin S k) k (sA S k) v P) h) := fun h2 B hf => by
      have hm := B.1
      have hr4 := B.2.2.2.2
      have g37 : (if k < sM (m_begin S k) then (sA (m_begin S k) k).1 else 0) = (sA S k).1 := if_pos hk
      have g38 : (if k < sM (m_begin S k) then (sA (m_begin S k) k).2.1 else 0) = (sA S k).2.1 := if_pos hk
      have g39 : (if k < sM (m_begin S k) then (sA (m_begin S k) k).2.2.1 else 0) = (sA S k).2.2.1 := if_pos hk
      have g40 : (if k < sM (m_begin S k) then (sA (m_begin S k) k).2.2.2.1 else 0) = (sA S k).2.2.2.1 := if_pos hk
      refine w_aload_n (q := 63) aX4_does_62 rfl rfl ?_
      refine w_get (q := 66) aX4_does_63 f_4_26 (hm 32 (by decide) (by decide)) rfl rfl ?_
      refine w_iload_n (q := 67) aX4_does_66 rfl rfl ?_
      refine w_iald (q := 68) aX4_does_67 (by decide) (hm 38 (by decide) (by decide)) (mm_ix_at (n := k) rfl (by omega) (rg_at (by omega))) rfl ?_
      rw [g38]
      refine w_istore (q := 70) (ls' := [(4, _), (2, _), (1, _), (0, _)]) aX4_does_68 (by decide) rfl rfl ?_
      refine w_aload_n (q := 71) aX4_does_70 rfl rfl ?_
      refine w_get (q := 74) aX4_does_71 f_4_29 (hm 32 (by decide) (by decide)) rfl rfl ?_
      refine w_iload_n (q := 75) aX4_does_74 rfl rfl ?_
      refine w_iald (q := 76) aX4_does_75 (by decide) (hm 39 (by decide) (by decide)) (mm_ix_at (n := k) rfl (by omega) (rg_at (by omega))) rfl ?_
      rw [g39]
      refine w_istore (q := 78) (ls' := [(5, _), (4, _), (2, _), (1, _), (0, _)]) aX4_does_76 (by decide) rfl rfl ?_
      refine w_aload_n (q := 79) aX4_does_78 rfl rfl ?_
      refine w_get (q := 82) aX4_does_79 f_4_23 (hm 32 (by decide) (by decide)) rfl rfl ?_
      refine w_iload_n (q := 83) aX4_does_82 rfl rfl ?_
      refine w_iald (q := 84) aX4_does_83 (by decide) (hm 37 (by decide) (by decide)) (mm_ix_at (n := k) rfl (by omega) (rg_at (by omega))) rfl ?_
      rw [g37, hs]
      by_cases h8 : 8 ≤ s
      · have hx : (nI s).toInt < 0 ∨ 7 < (nI s).toInt := Or.inr (by rw [nI_toInt (by omega)]; omega)
        refine w_tableD (t := 359) aX4_does_84 (hx) (by decide) ?_
        refine w_aload_n (q := 360) aX4_does_359 rfl rfl ?_
        refine w_iload_n (q := 361) aX4_does_360 rfl rfl ?_
        refine w_lload_n (q := 362) aX4_does_361 rfl rfl ?_
        refine w_callV aX4_does_362 t_4_154 (this_at rfl (hm 32 (by decide) (by decide))) (rfl) (d_doesOthers hk ho hs h8 hs15 hb hn B) (fun r362 h362 hp => ?_)
        obtain ⟨rfl, hR2, hf2⟩ := hp
        refine w_vret aX4_does_365 rfl ?_
        exact ⟨rfl, hR2, hf.tr hf2⟩
      · have n8 : ¬ (sA S k).1 = 8 := fun z => by
          rw [hs] at z
          have := (nI_iff (b := 8) (by omega) (by omega)).mp z
          omega
        have n9 : ¬ (sA S k).1 = 9 := fun z => by
          rw [hs] at z
          have := (nI_iff (b := 9) (by omega) (by omega)).mp z
          omega
        have hR := B.rm n8 n9
        have hcs : s = 0 ∨ s = 1 ∨ s = 2 ∨ s = 3 ∨ s = 4 ∨ s = 5 ∨ s = 6 ∨ s = 7 := by omega
        rcases hcs with rfl | rfl | rfl | rfl | rfl | rfl | rfl | rfl
        · have e : r_do 0 (m_begin S k) k (sA S k) v P = ((m_al 0 (m_begin S k) (sA S k) v).2, P, Xe (m_al 0 (m_begin S k) (sA S k) v).1 v) := rfl
          rw [e, m_al_0]
          obtain ⟨i, hi, ei⟩ := rN_of (by omega) (can_0.mpr hcan)
          rw [ei, nI_clamp (by omega)]
          refine w_table (t := 132) (o := 48) aX4_does_84 (by skip; decide) (by skip; decide) (by skip; rfl) (by decide) ?_
          refine w_aload_n (q := 133) aX4_does_132 rfl rfl ?_
          refine w_get (q := 136) aX4_does_133 f_4_7 (hm 32 (by decide) (by decide)) rfl rfl ?_
          refine w_iload (q := 138) aX4_does_136 rfl rfl ?_
          refine w_dup2 (q := 139) aX4_does_138 ⟨rfl, rfl⟩ rfl ?_
          refine w_lald (q := 140) aX4_does_139 (hm 33 (by decide) (by decide)) (mm_ix_at (n := i) rfl (by omega) (rg_at (by omega))) rfl ?_
          refine w_lload_n (q := 141) aX4_does_140 rfl rfl ?_
          refine w_iload (q := 143) aX4_does_141 rfl rfl ?_
          refine w_i2l (q := 144) aX4_does_143 rfl ?_
          refine w_ladd (q := 145) aX4_does_144 rfl ?_
          refine w_ladd (q := 146) aX4_does_145 rfl ?_
          refine w_last (q := 147) (n := i) (vs' := _) aX4_does_146 (hm 33 (by decide) (by decide)) (rfl) (by rw [rg_len]; omega) (by rw [rg_len]; omega) (rg_set _ _ _ _) rfl ?_
          refine w_goto (t := 365) aX4_does_147 (by decide) ?_
          refine w_vret aX4_does_365 rfl ?_
          exact ⟨rfl, hR.upT, hf.up (AM_l (by omega))⟩
        · have e : r_do 1 (m_begin S k) k (sA S k) v P = ((m_al 1 (m_begin S k) (sA S k) v).2, P, Xe (m_al 1 (m_begin S k) (sA S k) v).1 v) := rfl
          rw [e, m_al_1]
          obtain ⟨i, hi, ei⟩ := rN_of (by omega) (can_1.mpr hcan)
          rw [ei, nI_clamp (by omega)]
          refine w_table (t := 150) (o := 66) aX4_does_84 (by skip; decide) (by skip; decide) (by skip; rfl) (by decide) ?_
          refine w_aload_n (q := 151) aX4_does_150 rfl rfl ?_
          refine w_get (q := 154) aX4_does_151 f_4_7 (hm 32 (by decide) (by decide)) rfl rfl ?_
          refine w_iload (q := 156) aX4_does_154 rfl rfl ?_
          refine w_lload_n (q := 157) aX4_does_156 rfl rfl ?_
          refine w_aload_n (q := 158) aX4_does_157 rfl rfl ?_
          refine w_get (q := 161) aX4_does_158 f_4_7 (hm 32 (by decide) (by decide)) rfl rfl ?_
          refine w_iload (q := 163) aX4_does_161 rfl rfl ?_
          refine w_lald (q := 164) aX4_does_163 (hm 33 (by decide) (by decide)) (mm_ix_at (n := i) rfl (by omega) (rg_at (by omega))) rfl ?_
          refine w_lcmp (q := 165) aX4_does_164 rfl ?_
          refine w_if_le (t := 172) (q := 168) aX4_does_165 (by decide) rfl (fun c165 => ?_) (fun c165 => ?_)
          · have hle : v ≤ sT (m_begin S k) i := Int64.not_lt.mp (fun z => Int32.not_le.mpr ((lg_cmp_gt _ _).mpr z) c165)
            have hz : (if v < sT (m_begin S k) i then sT (m_begin S k) i else v) = sT (m_begin S k) i := by
              split
              · rfl
              · rename_i z
                exact Int64.le_antisymm hle (Int64.not_lt.mp z)
            rw [hz]
            refine w_aload_n (q := 173) aX4_does_172 rfl rfl ?_
            refine w_get (q := 176) aX4_does_173 f_4_7 (hm 32 (by decide) (by decide)) rfl rfl ?_
            refine w_iload (q := 178) aX4_does_176 rfl rfl ?_
            refine w_lald (q := 179) aX4_does_178 (hm 33 (by decide) (by decide)) (mm_ix_at (n := i) rfl (by omega) (rg_at (by omega))) rfl ?_
            refine w_last (q := 180) (n := i) (vs' := _) aX4_does_179 (hm 33 (by decide) (by decide)) (rfl) (by rw [rg_len]; omega) (by rw [rg_len]; omega) (rg_set _ _ _ _) rfl ?_
            refine w_goto (t := 365) aX4_does_180 (by decide) ?_
            refine w_vret aX4_does_365 rfl ?_
            exact ⟨rfl, hR.upT, hf.up (AM_l (by omega))⟩
          · have hgt : sT (m_begin S k) i < v := (lg_cmp_gt _ _).mp (Int32.not_le.mp c165)
            rw [if_neg (fun z => Int64.lt_asymm z hgt)]
            refine w_lload_n (q := 169) aX4_does_168 rfl rfl ?_
            refine w_goto (t := 179) aX4_does_169 (by decide) ?_
            refine w_last (q := 180) (n := i) (vs' := _) aX4_does_179 (hm 33 (by decide) (by decide)) (rfl) (by rw [rg_len]; omega) (by rw [rg_len]; omega) (rg_set _ _ _ _) rfl ?_
            refine w_goto (t := 365) aX4_does_180 (by decide) ?_
            refine w_vret aX4_does_365 rfl ?_
            exact ⟨rfl, hR.upT, hf.up (AM_l (by omega))⟩
        · have e : r_do 2 (m_begin S k) k (sA S k) v P = ((m_al 2 (m_begin S k) (sA S k) v).2, P, Xe (m_al 2 (m_begin S k) (sA S k) v).1 v) := rfl
          rw [e, m_al_2]
          obtain ⟨i, hi, ei⟩ := rN_of (by omega) (can_2'.mpr hcan)
          rw [ei, nI_clamp (by omega)]
          refine w_table (t := 183) (o := 99) aX4_does_84 (by skip; decide) (by skip; decide) (by skip; rfl) (by decide) ?_
          refine w_aload_n (q := 184) aX4_does_183 rfl rfl ?_
          refine w_get (q := 187) aX4_does_184 f_4_7 (hm 32 (by decide) (by decide)) rfl rfl ?_
          refine w_iload (q := 189) aX4_does_187 rfl rfl ?_
          refine w_aload_n (q := 190) aX4_does_189 rfl rfl ?_
          refine w_get (q := 193) aX4_does_190 f_4_32 (hm 32 (by decide) (by decide)) rfl rfl ?_
          refine w_iload_n (q := 194) aX4_does_193 rfl rfl ?_
          refine w_lald (q := 195) aX4_does_194 (hm 40 (by decide) (by decide)) (mm_ix_at (n := k) rfl (by omega) (rg_at (by omega))) rfl ?_
          rw [g40]
          refine w_iload (q := 197) aX4_does_195 rfl rfl ?_
          refine w_i2l (q := 198) aX4_does_197 rfl ?_
          refine w_ladd (q := 199) aX4_does_198 rfl ?_
          refine w_last (q := 200) (n := i) (vs' := _) aX4_does_199 (hm 33 (by decide) (by decide)) (rfl) (by rw [rg_len]; omega) (by rw [rg_len]; omega) (rg_set _ _ _ _) rfl ?_
          refine w_goto (t := 365) aX4_does_200 (by decide) ?_
          refine w_vret aX4_does_365 rfl ?_
          exact ⟨rfl, hR.upT, hf.up (AM_l (by omega))⟩
        · have e : r_do 3 (m_begin S k) k (sA S k) v P = ((m_al 3 (m_begin S k) (sA S k) v).2, P, Xe (m_al 3 (m_begin S k) (sA S k) v).1 v) := rfl
          rw [e, m_al_3]
          obtain ⟨i, hi, ei⟩ := rN_of (by omega) (can_3.mpr hcan)
          rw [ei, nI_clamp (by omega)]
          refine w_table (t := 203) (o := 119) aX4_does_84 (by skip; decide) (by skip; decide) (by skip; rfl) (by decide) ?_
          refine w_lload_n (q := 204) aX4_does_203 rfl rfl ?_
          refine w_lconst (v := 0) (q := 205) aX4_does_204 rfl rfl ?_
          refine w_lcmp (q := 206) aX4_does_205 rfl ?_
          refine w_if_ne (t := 217) (q := 209) aX4_does_206 (by decide) rfl (fun c206 => ?_) (fun c206 => ?_)
          · have hv : ¬ v = 0 := fun z => c206 ((lg_cmp_eq _ _).mpr z)
            rw [if_neg hv]
            refine w_aload_n (q := 218) aX4_does_217 rfl rfl ?_
            refine w_get (q := 221) aX4_does_218 f_4_7 (hm 32 (by decide) (by decide)) rfl rfl ?_
            refine w_iload (q := 223) aX4_does_221 rfl rfl ?_
            refine w_aload_n (q := 224) aX4_does_223 rfl rfl ?_
            refine w_get (q := 227) aX4_does_224 f_4_7 (hm 32 (by decide) (by decide)) rfl rfl ?_
            refine w_iload (q := 229) aX4_does_227 rfl rfl ?_
            refine w_lald (q := 230) aX4_does_229 (hm 33 (by decide) (by decide)) (mm_ix_at (n := i) rfl (by omega) (rg_at (by omega))) rfl ?_
            refine w_lload_n (q := 231) aX4_does_230 rfl rfl ?_
            refine w_ldiv (q := 232) aX4_does_231 (hv) rfl ?_
            refine w_last (q := 233) (n := i) (vs' := _) aX4_does_232 (hm 33 (by decide) (by decide)) (rfl) (by rw [rg_len]; omega) (by rw [rg_len]; omega) (rg_set _ _ _ _) rfl ?_
            refine w_goto (t := 365) aX4_does_233 (by decide) ?_
            refine w_vret aX4_does_365 rfl ?_
            exact ⟨rfl, hR.upT, hf.up (AM_l (by omega))⟩
          · rw [if_pos ((lg_cmp_eq _ _).mp c206)]
            refine w_aload_n (q := 210) aX4_does_209 rfl rfl ?_
            refine w_iconst (v := 1) (q := 211) aX4_does_210 rfl rfl ?_
            refine w_put (q := 214) (fs' := [_, _, _, _, _, _, _, _, _, _, _, _, _, _, _, _, _, _, _, _, _, _, _, _, _, _, _, _, _, _, _]) aX4_does_211 f_4_126 (hm 32 (by decide) (by decide)) (Nat.le_of_ble_eq_true rfl) rfl rfl (Or.inl rfl) rfl rfl ?_
            refine w_goto (t := 365) aX4_does_214 (by decide) ?_
            refine w_vret aX4_does_365 rfl ?_
            refine ⟨rfl, ⟨w, ?_, B.2.1, B.2.2.1.begin n8 n9, B.2.2.2⟩, hf.up (AM_l (by omega))⟩
            intro q h1 h2
            rcases q23 q h1 h2 with rfl | rfl | rfl | rfl | rfl | rfl | rfl | rfl | rfl | rfl | rfl | rfl | rfl | rfl | rfl | rfl | rfl | rfl | rfl | rfl | rfl | rfl | rfl <;> first | exact hm _ h1 h2 |  rfl
        · have e : r_do 4 (m_begin S k) k (sA S k) v P = ((m_al 4 (m_begin S k) (sA S k) v).2, P, Xe (m_al 4 (m_begin S k) (sA S k) v).1 v) := rfl
          rw [e, m_al_4]
          refine w_table (t := 236) (o := 152) aX4_does_84 (by skip; decide) (by skip; decide) (by skip; rfl) (by decide) ?_
          refine w_lload_n (q := 237) aX4_does_236 rfl rfl ?_
          refine w_lconst (v := 0) (q := 238) aX4_does_237 rfl rfl ?_
          refine w_ldc (q := 241) aX4_does_238 l_4_91 rfl ?_
          refine w_callS aX4_does_241 x_4_85 t_4_85 (rfl) (d_in) (fun r241 h241 hp => ?_)
          obtain ⟨rfl, rfl⟩ := hp
          have e8 : (¬ v < 0 ∧ v ≤ 7) ↔ rL v := ⟨fun z => ⟨z.1, Int64.lt_iff_toInt_lt.mpr (by have := Int64.le_iff_toInt_le.mp z.2; show v.toInt < 8; have e7 : (7 : Int64).toInt = 7 := rfl; omega)⟩, fun z => ⟨z.1, Int64.le_iff_toInt_le.mpr (by have := Int64.lt_iff_toInt_lt.mp z.2; show v.toInt ≤ 7; have e8 : (8 : Int64).toInt = 8 := rfl; omega)⟩⟩
          refine w_if_eq (t := 263) (q := 247) aX4_does_244 (by decide) rfl (fun c244 => ?_) (fun c244 => ?_)
          · rw [if_neg (fun z => bz_eq0 c244 (e8.mpr z))]
            refine w_aload_n (q := 264) aX4_does_263 rfl rfl ?_
            refine w_iconst (v := 2) (q := 265) aX4_does_264 rfl rfl ?_
            refine w_put (q := 268) (fs' := [_, _, _, _, _, _, _, _, _, _, _, _, _, _, _, _, _, _, _, _, _, _, _, _, _, _, _, _, _, _, _]) aX4_does_265 f_4_126 (hm 32 (by decide) (by decide)) (Nat.le_of_ble_eq_true rfl) rfl rfl (Or.inl rfl) rfl rfl ?_
            refine w_goto (t := 365) aX4_does_268 (by decide) ?_
            refine w_vret aX4_does_365 rfl ?_
            refine ⟨rfl, ⟨w, ?_, B.2.1, B.2.2.1.begin n8 n9, B.2.2.2⟩, hf.up (AM_l (by omega))⟩
            intro q h1 h2
            rcases q23 q h1 h2 with rfl | rfl | rfl | rfl | rfl | rfl | rfl | rfl | rfl | rfl | rfl | rfl | rfl | rfl | rfl | rfl | rfl | rfl | rfl | rfl | rfl | rfl | rfl <;> first | exact hm _ h1 h2 |  rfl
          · have hv := e8.mp (bz_ne0 c244)
            rw [if_pos hv]
            obtain ⟨i, hi, ei⟩ := rL_i hv
            refine w_aload_n (q := 248) aX4_does_247 rfl rfl ?_
            refine w_get (q := 251) aX4_does_248 f_4_7 (hm 32 (by decide) (by decide)) rfl rfl ?_
            refine w_lload_n (q := 252) aX4_does_251 rfl rfl ?_
            refine w_l2i (q := 253) aX4_does_252 rfl ?_
            rw [ei, nI_clamp (by omega)]
            refine w_dup2 (q := 254) aX4_does_253 ⟨rfl, rfl⟩ rfl ?_
            refine w_lald (q := 255) aX4_does_254 (hm 33 (by decide) (by decide)) (mm_ix_at (n := i) rfl (by omega) (rg_at (by omega))) rfl ?_
            refine w_iload (q := 257) aX4_does_255 rfl rfl ?_
            refine w_i2l (q := 258) aX4_does_257 rfl ?_
            refine w_ladd (q := 259) aX4_does_258 rfl ?_
            refine w_last (q := 260) (n := i) (vs' := _) aX4_does_259 (hm 33 (by decide) (by decide)) (rfl) (by rw [rg_len]; omega) (by rw [rg_len]; omega) (rg_set _ _ _ _) rfl ?_
            refine w_goto (t := 365) aX4_does_260 (by decide) ?_
            refine w_vret aX4_does_365 rfl ?_
            exact ⟨rfl, hR.upT, hf.up (AM_l (by omega))⟩
        · rw [r_do_5]
          obtain ⟨i, hi, ei⟩ := rN_of (by omega) (can_5.mpr hcan)
          rw [ei, nI_clamp (by omega)]
          refine w_table (t := 271) (o := 187) aX4_does_84 (by skip; decide) (by skip; decide) (by skip; rfl) (by decide) ?_
          refine w_aload_n (q := 272) aX4_does_271 rfl rfl ?_
          refine w_iload (q := 274) aX4_does_272 rfl rfl ?_
          refine w_lload_n (q := 275) aX4_does_274 rfl rfl ?_
          refine w_iload (q := 277) aX4_does_275 rfl rfl ?_
          refine w_i2l (q := 278) aX4_does_277 rfl ?_
          refine w_ladd (q := 279) aX4_does_278 rfl ?_
          refine w_callV aX4_does_279 t_4_143 (this_at rfl (hm 32 (by decide) (by decide))) (rfl) (d_rings (S := m_begin S k) hn hi ho.2.2.2.2.2.1 hR) (fun r279 h279 hp => ?_)
          obtain ⟨rfl, hR2, hf2⟩ := hp
          refine w_goto (t := 365) aX4_does_282 (by decide) ?_
          refine w_vret aX4_does_365 rfl ?_
          exact ⟨rfl, hR2, hf.tr hf2⟩
        · have e : r_do 6 (m_begin S k) k (sA S k) v P = ((m_al 6 (m_begin S k) (sA S k) v).2, P, Xe (m_al 6 (m_begin S k) (sA S k) v).1 v) := rfl
          rw [e, m_al_6]
          have hq20 : (sQ (m_begin S k)).length ≤ 20 := B.2.2.2.1.1
          refine w_table (t := 285) (o := 201) aX4_does_84 (by skip; decide) (by skip; decide) (by skip; rfl) (by decide) ?_
          refine w_aload_n (q := 286) aX4_does_285 rfl rfl ?_
          refine w_get (q := 289) aX4_does_286 f_4_147 (hm 32 (by decide) (by decide)) rfl rfl ?_
          refine w_bipush (v := 20) (q := 291) aX4_does_289 rfl rfl ?_
          refine w_ic_ne (t := 302) (q := 294) aX4_does_291 (by decide) rfl (fun c291 => ?_) (fun c291 => ?_)
          · have hne : ¬ (sQ (m_begin S k)).length = 20 := fun z => c291 (by rw [z]; rfl)
            have hlt : (sQ (m_begin S k)).length < 20 := Nat.lt_of_le_of_ne hq20 hne
            rw [if_neg hne]
            refine w_aload_n (q := 303) aX4_does_302 rfl rfl ?_
            refine w_get (q := 306) aX4_does_303 f_4_50 (hm 32 (by decide) (by decide)) rfl rfl ?_
            refine w_aload_n (q := 307) aX4_does_306 rfl rfl ?_
            refine w_get (q := 310) aX4_does_307 f_4_147 (hm 32 (by decide) (by decide)) rfl rfl ?_
            refine w_iload (q := 312) aX4_does_310 rfl rfl ?_
            refine w_iast (q := 313) (n := (sQ (m_begin S k)).length) (vs' := _) aX4_does_312 (hm 46 (by decide) (by decide)) (rfl) (by rw [rg_len]; omega) (by rw [rg_len]; omega) (rg_set _ _ _ _) rfl ?_
            refine w_aload_n (q := 314) aX4_does_313 rfl rfl ?_
            refine w_get (q := 317) aX4_does_314 f_4_53 ((up_n (by decide)).trans (hm 32 (by decide) (by decide))) rfl rfl ?_
            refine w_aload_n (q := 318) aX4_does_317 rfl rfl ?_
            refine w_get (q := 321) aX4_does_318 f_4_147 ((up_n (by decide)).trans (hm 32 (by decide) (by decide))) rfl rfl ?_
            refine w_lload_n (q := 322) aX4_does_321 rfl rfl ?_
            refine w_iload (q := 324) aX4_does_322 rfl rfl ?_
            refine w_i2l (q := 325) aX4_does_324 rfl ?_
            refine w_ladd (q := 326) aX4_does_325 rfl ?_
            refine w_last (q := 327) (n := (sQ (m_begin S k)).length) (vs' := _) aX4_does_326 ((up_n (by decide)).trans (hm 47 (by decide) (by decide))) (rfl) (by rw [rg_len]; omega) (by rw [rg_len]; omega) (rg_set _ _ _ _) rfl ?_
            refine w_aload_n (q := 328) aX4_does_327 rfl rfl ?_
            refine w_dup (q := 329) aX4_does_328 rfl rfl ?_
            refine w_get (q := 332) aX4_does_329 f_4_147 ((up_n (by decide)).trans ((up_n (by decide)).trans (hm 32 (by decide) (by decide)))) rfl rfl ?_
            refine w_iconst (v := 1) (q := 333) aX4_does_332 rfl rfl ?_
            refine w_iadd (q := 334) aX4_does_333 rfl ?_
            refine w_put (q := 337) (fs' := [_, _, _, _, _, _, _, _, _, _, _, _, _, _, _, _, _, _, _, _, _, _, _, _, _, _, _, _, _, _, _]) aX4_does_334 f_4_147 ((up_n (by decide)).trans ((up_n (by decide)).trans (hm 32 (by decide) (by decide)))) (Nat.le_of_ble_eq_true rfl) rfl rfl (Or.inl rfl) rfl rfl ?_
            refine w_goto (t := 365) aX4_does_337 (by decide) ?_
            refine w_vret aX4_does_365 rfl ?_
            have e46 : fu (fun j => Value.int (w.2.2.1 j)) (sQ (m_begin S k)).length (.int (sA S k).2.1) = fun j => Value.int (fu w.2.2.1 (sQ (m_begin S k)).length (sA S k).2.1 j) := fu_map Value.int _ _ _
            have e47 : fu (fun j => Value.long (w.2.2.2.1 j)) (sQ (m_begin S k)).length (.long (v + (sA S k).2.2.1.toInt64)) = fun j => Value.long (fu w.2.2.2.1 (sQ (m_begin S k)).length (v + (sA S k).2.2.1.toInt64) j) := fu_map Value.long _ _ _
            have e32 : moL (uQ (m_begin S k) (sQ (m_begin S k) ++ [((sA S k).2.1, v + (sA S k).2.2.1.toInt64)])) P.length (0, 0, -1, v) = [.ref 33, .ref 34, .ref 35, .ref 36, .int (nI (sM S)), .ref 37, .ref 38, .ref 39, .ref 40, .ref 41, .ref 42, .ref 43, .ref 44, .ref 45, .ref 46, .ref 47, .int (nI (sQ S).length + 1), .int (nI P.length), .ref 48, .ref 49, .ref 50, .ref 51, .ref 52, .ref 53, .int (nI (sD S)), .int (nI (sS (m_begin S k))), .int 0, .int 0, .int (-1), .long v, .ref 54] := by
              rw [nI_1]
              unfold moL
              rw [show (sQ (uQ (m_begin S k) (sQ (m_begin S k) ++ [((sA S k).2.1, v + (sA S k).2.2.1.toInt64)]))).length = (sQ S).length + 1 from List.length_append]
              rfl
            refine ⟨rfl, ⟨(w.1, w.2.1, fu w.2.2.1 (sQ (m_begin S k)).length (sA S k).2.1, fu w.2.2.2.1 (sQ (m_begin S k)).length (v + (sA S k).2.2.1.toInt64), w.2.2.2.2), ?_, B.2.1, B.2.2.1.begin n8 n9, rQu.put (S := m_begin S k) hlt B.2.2.2.1, hr4⟩, ((hf.up (AM_l (by omega))).up (AM_l (by omega))).up (AM_l (by omega))⟩
            intro q h1 h2
            rcases q23 q h1 h2 with rfl | rfl | rfl | rfl | rfl | rfl | rfl | rfl | rfl | rfl | rfl | rfl | rfl | rfl | rfl | rfl | rfl | rfl | rfl | rfl | rfl | rfl | rfl <;> first | exact hm _ h1 h2 | exact congrArg (fun z => some ((4 : Nat), z)) e32.symm | exact congrArg (fun z => some ((5 : Nat), rg 20 z)) e46 | exact congrArg (fun z => some ((6 : Nat), rg 20 z)) e47 |  rfl
          · have he : (sQ (m_begin S k)).length = 20 := (nI_iff (b := 20) (by omega) (by omega)).mp c291
            rw [if_pos he]
            refine w_aload_n (q := 295) aX4_does_294 rfl rfl ?_
            refine w_iconst (v := 4) (q := 296) aX4_does_295 rfl rfl ?_
            refine w_put (q := 299) (fs' := [_, _, _, _, _, _, _, _, _, _, _, _, _, _, _, _, _, _, _, _, _, _, _, _, _, _, _, _, _, _, _]) aX4_does_296 f_4_126 (hm 32 (by decide) (by decide)) (Nat.le_of_ble_eq_true rfl) rfl rfl (Or.inl rfl) rfl rfl ?_
            refine w_goto (t := 365) aX4_does_299 (by decide) ?_
            refine w_vret aX4_does_365 rfl ?_
            refine ⟨rfl, ⟨w, ?_, B.2.1, B.2.2.1.begin n8 n9, B.2.2.2⟩, hf.up (AM_l (by omega))⟩
            intro q h1 h2
            rcases q23 q h1 h2 with rfl | rfl | rfl | rfl | rfl | rfl | rfl | rfl | rfl | rfl | rfl | rfl | rfl | rfl | rfl | rfl | rfl | rfl | rfl | rfl | rfl | rfl | rfl <;> first | exact hm _ h1 h2 |  rfl
        · have e : r_do 7 (m_begin S k) k (sA S k) v P = ((m_al 7 (m_begin S k) (sA S k) v).2, P, Xe (m_al 7 (m_begin S k) (sA S k) v).1 v) := rfl
          rw [e, m_al_7]
          refine w_table (t := 340) (o := 256) aX4_does_84 (by skip; decide) (by skip; decide) (by skip; rfl) (by decide) ?_
          refine w_aload_n (q := 341) aX4_does_340 rfl rfl ?_
          refine w_get (q := 344) aX4_does_341 f_4_74 (hm 32 (by decide) (by decide)) rfl rfl ?_
          refine w_bipush (v := 6) (q := 346) aX4_does_344 rfl rfl ?_
          refine w_dup2 (q := 347) aX4_does_346 ⟨rfl, rfl⟩ rfl ?_
          refine w_iald (q := 348) aX4_does_347 (by decide) (hm 54 (by decide) (by decide)) (mm_ix_at (n := 6) rfl (by omega) (rg_at (by omega))) rfl ?_
          refine w_iconst (v := 1) (q := 349) aX4_does_348 rfl rfl ?_
          refine w_iadd (q := 350) aX4_does_349 rfl ?_
          refine w_iast (q := 351) (n := 6) (vs' := _) aX4_does_350 (hm 54 (by decide) (by decide)) (rfl) (by rw [rg_len]; omega) (by rw [rg_len]; omega) (rg_set _ _ _ _) rfl ?_
          refine w_aload_n (q := 352) aX4_does_351 rfl rfl ?_
          refine w_iconst (v := 1) (q := 353) aX4_does_352 rfl rfl ?_
          refine w_put (q := 356) (fs' := [_, _, _, _, _, _, _, _, _, _, _, _, _, _, _, _, _, _, _, _, _, _, _, _, _, _, _, _, _, _, _]) aX4_does_353 f_4_150 ((up_n (by decide)).trans (hm 32 (by decide) (by decide))) (Nat.le_of_ble_eq_true rfl) rfl rfl (Or.inl rfl) rfl rfl ?_
          refine w_goto (t := 365) aX4_does_356 (by decide) ?_
          refine w_vret aX4_does_365 rfl ?_
          refine ⟨rfl, ⟨w, ?_, B.2.1, B.2.2.1.begin n8 n9, B.2.2.2⟩, (hf.up (AM_l (by omega))).up (AM_l (by omega))⟩
          intro q h1 h2
          rcases q23 q h1 h2 with rfl | rfl | rfl | rfl | rfl | rfl | rfl | rfl | rfl | rfl | rfl | rfl | rfl | rfl | rfl | rfl | rfl | rfl | rfl | rfl | rfl | rfl | rfl <;> first | exact hm _ h1 h2 | exact congrArg (fun z => some ((5 : Nat), rg 10 z)) (f54 (by decide)) |  rfl
    refine key _ ⟨?_, r1, r2, r3, r4⟩ ((((fr.rf.up (AM_l (by omega))).up (AM_l (by omega))).up (AM_l (by omega))).up (AM_l (by omega)))
    intro q h1 h2
    rcases q23 q h1 h2 with rfl | rfl | rfl | rfl | rfl | rfl | rfl | rfl | rfl | rfl | rfl | rfl | rfl | rfl | rfl | rfl | rfl | rfl | rfl | rfl | rfl | rfl | rfl <;> first | exact hm _ h1 h2 | exact congrArg (fun z => some ((4 : Nat), z)) e32.symm | exact congrArg (fun z => some ((5 : Nat), rg 10 z)) (f54 (by decide)) | exact congrArg (fun z => some ((5 : Nat), rg 40 z)) e44 |  rfl
