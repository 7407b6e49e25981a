def wg (w : Raw) (g : Nat → Int32) : Raw := (w.1, w.2.1, w.2.2.1, w.2.2.2.1, w.2.2.2.2.1, w.2.2.2.2.2.1, w.2.2.2.2.2.2.1, w.2.2.2.2.2.2.2.1, w.2.2.2.2.2.2.2.2.1, g)
theorem f54 {S : St} {c : Nat} {x : Int32} (hc : ¬ c = 0) : fu (fun j => Value.int (if j = 0 then nI (sM S) else sC S j)) c (.int x) = fun j => Value.int (if j = 0 then nI (sM S) else fu (sC S) c x j) := by
  funext j
  unfold fu
  by_cases e : j = c
  · subst e
    simp [hc]
  · simp [e]
theorem m_rings {F : Nat} {S : St} {n k : Nat} {X : Xs} {v : Int64} {w : Raw} {h0 : mm_H} {g0 : Nat → Int32} (hn : n < 600) (hk : k < 6) (r1 : rLn S w.1) : ∀ (m i : Nat) (g : Nat → Int32) (h : mm_H), m + i = (sL S k).length → hM S (n + 1) X (wg w g) h → (∀ j x, j < i → (sL S k)[j]? = some x → g (12 * n + j) = x) → (∀ j, j < 12 * n → g j = g0 j) → fr AM h0 h → mW none F mX4_rings 62 [(4, .int (nI i)), (0, .ref 32), (1, .int (nI k)), (2, .long v)] [] h (fun r h' => r = none ∧ fr AM h0 h' ∧ ∃ g', hM S (n + 1) X (wg w g') h' ∧ (∀ j x, (sL S k)[j]? = some x → g' (12 * n + j) = x) ∧ (∀ j, j < 12 * n → g' j = g0 j)) := by
  obtain ⟨hl12, hnd, hat⟩ := r1 k hk
  intro m
  induction m with
  | zero =>
    intro i g h hmi hm g1 g2 hf
    obtain rfl : i = (sL S k).length := by omega
    refine w_iload (q := 64) aX4_rings_62 rfl rfl ?_
    refine w_aload_n (q := 65) aX4_rings_64 rfl rfl ?_
    refine w_get (q := 68) aX4_rings_65 f_4_20 (hm 32 (by decide) (by decide)) rfl rfl ?_
    refine w_iload_n (q := 69) aX4_rings_68 rfl rfl ?_
    refine w_iald (q := 70) aX4_rings_69 (by decide) (hm 36 (by decide) (by decide)) (mm_ix_at (n := k) rfl (by omega) (rg_at hk)) rfl ?_
    refine w_ic_ge (t := 108) (q := 73) aX4_rings_70 (by decide) rfl (fun c70 => ?_) (fun c70 => ?_)
    · refine w_vret aX4_rings_108 rfl ?_
      exact ⟨rfl, hf, g, hm, fun j x hj => g1 j x (List.getElem?_eq_some_iff.mp hj).1 hj, g2⟩
    · exact absurd (nI_le (Nat.le_refl _) (by omega)) c70
  | succ m ih =>
    intro i g h hmi hm g1 g2 hf
    refine w_iload (q := 64) aX4_rings_62 rfl rfl ?_
    refine w_aload_n (q := 65) aX4_rings_64 rfl rfl ?_
    refine w_get (q := 68) aX4_rings_65 f_4_20 (hm 32 (by decide) (by decide)) rfl rfl ?_
    refine w_iload_n (q := 69) aX4_rings_68 rfl rfl ?_
    refine w_iald (q := 70) aX4_rings_69 (by decide) (hm 36 (by decide) (by decide)) (mm_ix_at (n := k) rfl (by omega) (rg_at hk)) rfl ?_
    refine w_ic_ge (t := 108) (q := 73) aX4_rings_70 (by decide) rfl (fun c70 => ?_) (fun c70 => ?_)
    · exact absurd c70 (nI_ge (by omega) (by omega))
    · refine w_aload_n (q := 74) aX4_rings_73 rfl rfl ?_
      refine w_get (q := 77) aX4_rings_74 f_4_71 (hm 32 (by decide) (by decide)) rfl rfl ?_
      refine w_bipush (v := 12) (q := 79) aX4_rings_77 rfl rfl ?_
      refine w_aload_n (q := 80) aX4_rings_79 rfl rfl ?_
      refine w_get (q := 83) aX4_rings_80 f_4_120 (hm 32 (by decide) (by decide)) rfl rfl ?_
      refine w_iconst (v := 1) (q := 84) aX4_rings_83 rfl rfl ?_
      refine w_isub (q := 85) aX4_rings_84 rfl ?_
      refine w_imul (q := 86) aX4_rings_85 rfl ?_
      refine w_iload (q := 88) aX4_rings_86 rfl rfl ?_
      refine w_iadd (q := 89) aX4_rings_88 rfl ?_
      refine w_aload_n (q := 90) aX4_rings_89 rfl rfl ?_
      rw [nI_pred, m12]
      refine w_get (q := 93) aX4_rings_90 f_4_17 (hm 32 (by decide) (by decide)) rfl rfl ?_
      refine w_bipush (v := 12) (q := 95) aX4_rings_93 rfl rfl ?_
      refine w_iload_n (q := 96) aX4_rings_95 rfl rfl ?_
      refine w_imul (q := 97) aX4_rings_96 rfl ?_
      refine w_iload (q := 99) aX4_rings_97 rfl rfl ?_
      refine w_iadd (q := 100) aX4_rings_99 rfl ?_
      rw [m12]
      refine w_iald (q := 101) aX4_rings_100 (by decide) (hm 35 (by decide) (by decide)) (mm_ix_at (n := 12 * k + i) rfl (by omega) (rg_at (by omega))) rfl ?_
      refine w_iast (q := 102) (n := 12 * n + i) (vs' := _) aX4_rings_101 (hm 53 (by decide) (by decide)) (rfl) (by rw [rg_len]; omega) (by rw [rg_len]; omega) (rg_set _ _ _ _) rfl ?_
      refine w_iinc (q := 105) (ls' := [(4, _), (0, _), (1, _), (2, _)]) aX4_rings_102 rfl rfl (by decide) rfl rfl ?_
      refine w_goto (t := 62) aX4_rings_105 (by decide) ?_
      rw [show nI i + Int32.ofInt 1 = nI (i + 1) from nI_1 i]
      refine ih (i + 1) (fu g (12 * n + i) (w.1 (12 * k + i))) _ (by omega) (hm.up (congrArg (fun z => ((5 : Nat), rg 7200 z)) (fu_map Value.int g _ _)) (fun q h1 h2 h3 => ?_)) (fun j x hj hx => ?_) (fun j hj => (fu_n (by omega)).trans (g2 j hj)) (hf.up (AM_l (by omega)))
      · rcases q23 q h1 h2 with rfl | rfl | rfl | rfl | rfl | rfl | rfl | rfl | rfl | rfl | rfl | rfl | rfl | rfl | rfl | rfl | rfl | rfl | rfl | rfl | rfl | rfl | rfl <;> first | exact absurd rfl h3 | rfl
      · by_cases e : j = i
        · subst e
          rw [fu_s]
          exact hat j x hx
        · rw [fu_n (by omega)]
          exact g1 j x (by omega) hx
/-- what rings leaves -/
def r_rings (S : St) (k : Nat) (v u : Int64) (P : List Fr) : St × List Fr × Xs := if 8 ≤ sD S then (S, P, Xe 5 u) else (uC (uD S (sD S + 1)) (inc (sC S) 2), P ++ [(0, nI k, v, sL S k, 0)], (0, 0, -1, u))
theorem d_rings {F : Nat} {h : mm_H} {S : St} {P : List Fr} {k : Nat} {v u : Int64} (hn : P.length < 600) (hk : k < 6) (hd : sD S ≤ 8) (hR : RM S P (0, 0, -1, u) h) : mW none (F + 1) mX4_rings 0 [(0, .ref 32), (1, .int (nI k)), (2, .long v)] [] h (fun r h' => r = none ∧ RM (r_rings S k v u P).1 (r_rings S k v u P).2.1 (r_rings S k v u P).2.2 h' ∧ fr AM h h') := by
  obtain ⟨w, hm, r1, r2, r3, r4⟩ := hR
  unfold r_rings
  refine w_aload_n (q := 1) aX4_rings_0 rfl rfl ?_
  refine w_get (q := 4) aX4_rings_1 f_4_123 (hm 32 (by decide) (by decide)) rfl rfl ?_
  refine w_bipush (v := 8) (q := 6) aX4_rings_4 rfl rfl ?_
  refine w_ic_ne (t := 15) (q := 9) aX4_rings_6 (by decide) rfl (fun c6 => ?_) (fun c6 => ?_)
  · have hlt : sD S < 8 := Nat.lt_of_le_of_ne hd (fun z => c6 (by show nI (sD S) = 8; rw [z]; rfl))
    rw [if_neg (by omega)]
    refine w_aload_n (q := 16) aX4_rings_15 rfl rfl ?_
    refine w_dup (q := 17) aX4_rings_16 rfl rfl ?_
    refine w_get (q := 20) aX4_rings_17 f_4_123 (hm 32 (by decide) (by decide)) rfl rfl ?_
    refine w_iconst (v := 1) (q := 21) aX4_rings_20 rfl rfl ?_
    refine w_iadd (q := 22) aX4_rings_21 rfl ?_
    refine w_put (q := 25) (fs' := [_, _, _, _, _, _, _, _, _, _, _, _, _, _, _, _, _, _, _, _, _, _, _, _, _, _, _, _, _, _, _]) aX4_rings_22 f_4_123 (hm 32 (by decide) (by decide)) (Nat.le_of_ble_eq_true rfl) rfl rfl (Or.inl rfl) rfl rfl ?_
    refine w_aload_n (q := 26) aX4_rings_25 rfl rfl ?_
    refine w_get (q := 29) aX4_rings_26 f_4_74 (up_s _ _ _) rfl rfl ?_
    refine w_iconst (v := 2) (q := 30) aX4_rings_29 rfl rfl ?_
    refine w_dup2 (q := 31) aX4_rings_30 ⟨rfl, rfl⟩ rfl ?_
    refine w_iald (q := 32) aX4_rings_31 (by decide) ((up_n (by decide)).trans (hm 54 (by decide) (by decide))) (mm_ix_at (n := 2) rfl (by omega) (rg_at (by omega))) rfl ?_
    refine w_iconst (v := 1) (q := 33) aX4_rings_32 rfl rfl ?_
    refine w_iadd (q := 34) aX4_rings_33 rfl ?_
    refine w_iast (q := 35) (n := 2) (vs' := _) aX4_rings_34 ((up_n (by decide)).trans (hm 54 (by decide) (by decide))) (rfl) (by rw [rg_len]; omega) (by rw [rg_len]; omega) (rg_set _ _ _ _) rfl ?_
    have e32 : moL (uC (uD S (sD S + 1)) (inc (sC S) 2)) P.length (0, 0, -1, u) = [.ref 33, .ref 34, .ref 35, .ref 36, .int (nI (sM S)), .ref 37, .ref 38, .ref 39, .ref 40, .ref 41, .ref 42, .ref 43, .ref 44, .ref 45, .ref 46, .ref 47, .int (nI (sQ S).length), .int (nI P.length), .ref 48, .ref 49, .ref 50, .ref 51, .ref 52, .ref 53, .int (nI (sD S) + 1), .int (nI (sS S)), .int 0, .int 0, .int (-1), .long u, .ref 54] := by rw [nI_1]; rfl
    have hm2 : hM (uC (uD S (sD S + 1)) (inc (sC S) 2)) P.length (0, 0, -1, u) w (mm_up (mm_up h 32 (4, [.ref 33, .ref 34, .ref 35, .ref 36, .int (nI (sM S)), .ref 37, .ref 38, .ref 39, .ref 40, .ref 41, .ref 42, .ref 43, .ref 44, .ref 45, .ref 46, .ref 47, .int (nI (sQ S).length), .int (nI P.length), .ref 48, .ref 49, .ref 50, .ref 51, .ref 52, .ref 53, .int (nI (sD S) + 1), .int (nI (sS S)), .int 0, .int 0, .int (-1), .long u, .ref 54])) 54 (5, rg 10 (fu (fun j => Value.int (if j = 0 then nI (sM S) else sC S j)) 2 (.int (sC S 2 + 1))))) := by
      intro q h1 h2
      rcases q23 q h1 h2 with rfl | rfl | rfl | rfl | rfl | rfl | rfl | rfl | rfl | rfl | rfl | rfl | rfl | rfl | rfl | rfl | rfl | rfl | rfl | rfl | rfl | rfl | rfl <;> first | exact hm _ h1 h2 | exact congrArg (fun z => some ((4 : Nat), z)) e32.symm | exact congrArg (fun z => some ((5 : Nat), rg 10 z)) (f54 (by decide)) |  rfl
    refine w_aload_n (q := 36) aX4_rings_35 rfl rfl ?_
    refine w_iconst (v := 0) (q := 37) aX4_rings_36 rfl rfl ?_
    refine w_iload_n (q := 38) aX4_rings_37 rfl rfl ?_
    refine w_lload_n (q := 39) aX4_rings_38 rfl rfl ?_
    refine w_callV aX4_rings_39 t_4_129 (this_at rfl (hm2 32 (by decide) (by decide))) (rfl) (d_heap hn hm2) (fun r39 h39 hp => ?_)
    obtain ⟨rfl, hm3, hf3⟩ := hp
    refine w_aload_n (q := 43) aX4_rings_42 rfl rfl ?_
    refine w_get (q := 46) aX4_rings_43 f_4_68 (hm3 32 (by decide) (by decide)) rfl rfl ?_
    refine w_aload_n (q := 47) aX4_rings_46 rfl rfl ?_
    refine w_get (q := 50) aX4_rings_47 f_4_120 (hm3 32 (by decide) (by decide)) rfl rfl ?_
    refine w_iconst (v := 1) (q := 51) aX4_rings_50 rfl rfl ?_
    refine w_isub (q := 52) aX4_rings_51 rfl ?_
    refine w_aload_n (q := 53) aX4_rings_52 rfl rfl ?_
    rw [nI_pred]
    refine w_get (q := 56) aX4_rings_53 f_4_20 (hm3 32 (by decide) (by decide)) rfl rfl ?_
    refine w_iload_n (q := 57) aX4_rings_56 rfl rfl ?_
    refine w_iald (q := 58) aX4_rings_57 (by decide) (hm3 36 (by decide) (by decide)) (mm_ix_at (n := k) rfl (by omega) (rg_at hk)) rfl ?_
    refine w_iast (q := 59) (n := P.length) (vs' := _) aX4_rings_58 (hm3 52 (by decide) (by decide)) (rfl) (by rw [rg_len]; omega) (by rw [rg_len]; omega) (rg_set _ _ _ _) rfl ?_
    refine w_iconst (v := 0) (q := 60) aX4_rings_59 rfl rfl ?_
    refine w_istore (q := 62) (ls' := [(4, _), (0, _), (1, _), (2, _)]) aX4_rings_60 (by decide) rfl rfl ?_
    let w2 : Raw := (w.1, w.2.1, w.2.2.1, w.2.2.2.1, fu w.2.2.2.2.1 P.length 0, fu w.2.2.2.2.2.1 P.length (nI k), fu w.2.2.2.2.2.2.1 P.length v, fu w.2.2.2.2.2.2.2.1 P.length 0, fu (fu w.2.2.2.2.2.2.2.2.1 P.length 0) P.length (nI (sL S k).length), w.2.2.2.2.2.2.2.2.2)
    have hm4 : hM (uC (uD S (sD S + 1)) (inc (sC S) 2)) (P.length + 1) (0, 0, -1, u) (wg w2 w.2.2.2.2.2.2.2.2.2) (mm_up h39 52 (5, rg 600 (fu (fun j => Value.int (fu w.2.2.2.2.2.2.2.2.1 P.length 0 j)) P.length (.int (nI (sL S k).length))))) := by
      refine hm3.up (congrArg (fun z => ((5 : Nat), rg 600 z)) (fu_map Value.int _ _ (nI (sL S k).length))) (fun q h1 h2 h3 => ?_)
      rcases q23 q h1 h2 with rfl | rfl | rfl | rfl | rfl | rfl | rfl | rfl | rfl | rfl | rfl | rfl | rfl | rfl | rfl | rfl | rfl | rfl | rfl | rfl | rfl | rfl | rfl <;> first | exact absurd rfl h3 | rfl
    have k9 := m_rings (F := F + 1) (v := v) (S := uC (uD S (sD S + 1)) (inc (sC S) 2)) (w := w2) (g0 := w.2.2.2.2.2.2.2.2.2) (h0 := h) hn hk r1 (sL S k).length 0 w.2.2.2.2.2.2.2.2.2 _ rfl hm4 (fun j x hj => absurd hj (Nat.not_lt_zero _)) (fun j hj => rfl) ((((fr.rf.up (AM_l (by omega))).up (AM_l (by omega))).tr hf3).up (AM_l (by omega)))
    refine mW.imp k9 (fun r h' hp => ?_)
    · obtain ⟨rfl, hf, g', hm4, k1, k2⟩ := hp
      refine ⟨rfl, ⟨wg w2 g', ?_, r1, r2, r3, ?_⟩, hf⟩
      · show hM _ (P ++ [(0, nI k, v, sL S k, 0)]).length _ _ _
        rw [List.length_append]
        exact hm4
      · intro p f hp
        by_cases e : p < P.length
        · rw [List.getElem?_append_left e] at hp
          obtain ⟨g1, g2, g3, g4⟩ := r4 p f hp
          refine ⟨(fu_n (by omega)).trans g1, (fu_n (by omega)).trans g2, (fu_n (by omega)).trans g3, fun z => ?_⟩
          obtain ⟨k3, k4, k5, k6⟩ := g4 z
          refine ⟨(fu_n (by omega)).trans k3, (fu_n (by omega)).trans ((fu_n (by omega)).trans k4), k5, fun i x hx => (k2 _ ?_).trans (k6 i x hx)⟩
          have := (List.getElem?_eq_some_iff.mp hx).1
          omega
        · have e2 : p = P.length := by
            have := (List.getElem?_eq_some_iff.mp hp).1
            simp at this
            omega
          subst e2
          simp at hp
          subst hp
          exact ⟨fu_s, fu_s, fu_s, fun z => ⟨fu_s, fu_s, (r1 k hk).1, fun i x hx => k1 i x hx⟩⟩
  · have hge : sD S = 8 := (nI_iff (b := 8) (by omega) (by omega)).mp c6
    rw [if_pos (by omega)]
    refine w_aload_n (q := 10) aX4_rings_9 rfl rfl ?_
    refine w_iconst (v := 5) (q := 11) aX4_rings_10 rfl rfl ?_
    refine w_put (q := 14) (fs' := [_, _, _, _, _, _, _, _, _, _, _, _, _, _, _, _, _, _, _, _, _, _, _, _, _, _, _, _, _, _, _]) aX4_rings_11 f_4_126 (hm 32 (by decide) (by decide)) (Nat.le_of_ble_eq_true rfl) rfl rfl (Or.inl rfl) rfl rfl ?_
    refine w_vret aX4_rings_14 rfl ?_
    refine ⟨rfl, ⟨w, ?_, r1, r2, r3, r4⟩, fr.rf.up (AM_l (by omega))⟩
    intro q h1 h2
    rcases q23 q h1 h2 with rfl | rfl | rfl | rfl | rfl | rfl | rfl | rfl | rfl | rfl | rfl | rfl | rfl | rfl | rfl | rfl | rfl | rfl | rfl | rfl | rfl | rfl | rfl <;> first | exact hm _ h1 h2 |  rfl
