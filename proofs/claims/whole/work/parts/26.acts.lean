def p_hearer (S : St) (s a b : Int32) : Int32 × St := if p_can (sM S) s a b then (if 40 ≤ sM S then (-3, S) else (nI (sM S), p_make S s a b)) else (-2, S)
theorem can_2 {m : Nat} {a b : Int32} (h : p_can m 2 a b) : rN 8 a := by
  have := (can_2' (m := m) (a := a) (b := b)).mpr h
  exact this
theorem can_8 {m : Nat} {s a b : Int32} (h : p_can m s a b) (h1 : 8 ≤ s) (h2 : s ≤ 12) : rN m a := by
  obtain ⟨j, hj, rfl⟩ := rN_of (by omega) (can_in h)
  have h3 : 8 ≤ j := (nI_leI (a := 8) (by omega) (by omega)).mp h1
  have h4 : j ≤ 12 := (nI_leI (b := 12) (by omega) (by omega)).mp h2
  have hcs : j = 8 ∨ j = 9 ∨ j = 10 ∨ j = 11 ∨ j = 12 := by omega
  rcases hcs with rfl | rfl | rfl | rfl | rfl
  · exact can_8'.mpr h
  · exact can_9.mpr h
  · exact (can_10.mpr h).1
  · exact (can_11.mpr h).1
  · exact (can_12.mpr h).1
theorem c_hearer {F : Nat} {h : mm_H} {S : St} {s a b : Int32} (hM : sM S ≤ 40) (ho : h.1 = aa (sM S)) (hR : RC S h) : mW none (F + 3) mX3_hearer 0 [(0, .ref 1), (1, .int s), (2, .int a), (3, .int b)] [] h (fun r h' => r = some (.int (p_hearer S s a b).1) ∧ RC (p_hearer S s a b).2 h' ∧ h'.1 = h.1 + (sM (p_hearer S s a b).2 - sM S) ∧ h'.2.1 = h.2.1 + 7 * (sM (p_hearer S s a b).2 - sM S) ∧ ∀ q, ¬ AC q → h'.2.2 q = h.2.2 q) := by
  unfold p_hearer
  refine w_aload_n (q := 1) aX3_hearer_0 rfl rfl ?_
  refine w_iload_n (q := 2) aX3_hearer_1 rfl rfl ?_
  refine w_iload_n (q := 3) aX3_hearer_2 rfl rfl ?_
  refine w_iload_n (q := 4) aX3_hearer_3 rfl rfl ?_
  refine w_callV aX3_hearer_4 t_3_57 (this_at rfl hR.ho) (rfl) (c_canBeMade hR) (fun r4 h4 hp => ?_)
  obtain ⟨rfl, rfl⟩ := hp
  refine w_if_ne (t := 13) (q := 10) aX3_hearer_7 (by decide) rfl (fun c7 => ?_) (fun c7 => ?_)
  · have hc := bz_ne0 c7
    rw [if_pos hc]
    refine w_aload_n (q := 14) aX3_hearer_13 rfl rfl ?_
    refine w_get (q := 17) aX3_hearer_14 f_3_61 (hR.ho) rfl rfl ?_
    refine w_bipush (v := 40) (q := 19) aX3_hearer_17 rfl rfl ?_
    refine w_ic_lt (t := 27) (q := 22) aX3_hearer_19 (by decide) rfl (fun c19 => ?_) (fun c19 => ?_)
    · have hlt : sM S < 40 := (nI_ltI (b := 40) (by omega) (by omega)).mp c19
      rw [if_neg (by omega)]
      refine w_aload_n (q := 28) aX3_hearer_27 rfl rfl ?_
      refine w_iload_n (q := 29) aX3_hearer_28 rfl rfl ?_
      refine w_iload_n (q := 30) aX3_hearer_29 rfl rfl ?_
      refine w_iload_n (q := 31) aX3_hearer_30 rfl rfl ?_
      refine w_callV aX3_hearer_31 t_3_41 (this_at rfl hR.ho) (rfl) (c_makeHearer hlt ho (fun e => by subst e; exact can_2 hc) (can_8 hc) (fun e => by subst e; exact (can_11.mpr hc).2) hR) (fun r31 h31 hp => ?_)
      obtain ⟨rfl, hR2, g1, g2, g3⟩ := hp
      refine w_iret aX3_hearer_34 rfl ?_
      have e1 : sM (nI (sM S), p_make S s a b).2 - sM S = 1 := by show sM S + 1 - sM S = 1; omega
      rw [e1]
      exact ⟨rfl, hR2, g1, g2, g3⟩
    · have hge : 40 ≤ sM S := Nat.le_of_not_lt (fun z => c19 (nI_lt (b := 40) z (by omega)))
      rw [if_pos hge]
      refine w_bipush (v := -3) (q := 24) aX3_hearer_22 rfl rfl ?_
      refine w_goto (t := 34) aX3_hearer_24 (by decide) ?_
      refine w_iret aX3_hearer_34 rfl ?_
      exact ⟨rfl, hR, by simp, by simp, fun _ _ => rfl⟩
  · rw [if_neg (bz_eq0 c7)]
    refine w_bipush (v := -2) (q := 12) aX3_hearer_10 rfl rfl ?_
    refine w_iret aX3_hearer_12 rfl ?_
    exact ⟨rfl, hR, by simp, by simp, fun _ _ => rfl⟩
/-- the answer of a call that rings or acts -/
def m_answer (q : Int32 × St) : Int32 × St := if q.1 = 0 then (nI (sS q.2), q.2) else (-10 - q.1, uC q.2 (fu (inc (inc (sC q.2) 4) 9) 8 q.1))
theorem c_answerOfCall {F : Nat} {h : mm_H} {S : St} {e : Int32} (hR : RC S h) : mW none F mX3_answerOfCall 0 [(0, .ref 1), (1, .int e)] [] h (cP (m_answer (e, S)) h) := by
  unfold m_answer
  refine w_iload_n (q := 1) aX3_answerOfCall_0 rfl rfl ?_
  refine w_if_ne (t := 9) (q := 4) aX3_answerOfCall_1 (by decide) rfl (fun c1 => ?_) (fun c1 => ?_)
  · rw [if_neg c1]
    refine w_aload_n (q := 10) aX3_answerOfCall_9 rfl rfl ?_
    refine w_dup (q := 11) aX3_answerOfCall_10 rfl rfl ?_
    refine w_get (q := 14) aX3_answerOfCall_11 f_3_112 (hR.ho) rfl rfl ?_
    refine w_iconst (v := 1) (q := 15) aX3_answerOfCall_14 rfl rfl ?_
    refine w_iadd (q := 16) aX3_answerOfCall_15 rfl ?_
    refine w_put (q := 19) (fs' := [_, _, _, _, _, _, _, _, _, _, _, _, _, _, _, _, _]) aX3_answerOfCall_16 f_3_112 (hR.ho) (Nat.le_of_ble_eq_true rfl) rfl rfl (Or.inl rfl) rfl rfl ?_
    refine w_aload_n (q := 20) aX3_answerOfCall_19 rfl rfl ?_
    refine w_dup (q := 21) aX3_answerOfCall_20 rfl rfl ?_
    refine w_get (q := 24) aX3_answerOfCall_21 f_3_74 (up_s _ _ _) rfl rfl ?_
    refine w_iconst (v := 1) (q := 25) aX3_answerOfCall_24 rfl rfl ?_
    refine w_iadd (q := 26) aX3_answerOfCall_25 rfl ?_
    refine w_put (q := 29) (fs' := [_, _, _, _, _, _, _, _, _, _, _, _, _, _, _, _, _]) aX3_answerOfCall_26 f_3_74 (up_s _ _ _) (Nat.le_of_ble_eq_true rfl) rfl rfl (Or.inl rfl) rfl rfl ?_
    refine w_aload_n (q := 30) aX3_answerOfCall_29 rfl rfl ?_
    refine w_iload_n (q := 31) aX3_answerOfCall_30 rfl rfl ?_
    refine w_put (q := 34) (fs' := [_, _, _, _, _, _, _, _, _, _, _, _, _, _, _, _, _]) aX3_answerOfCall_31 f_3_124 (up_s _ _ _) (Nat.le_of_ble_eq_true rfl) rfl rfl (Or.inl rfl) rfl rfl ?_
    refine w_bipush (v := -10) (q := 36) aX3_answerOfCall_34 rfl rfl ?_
    refine w_iload_n (q := 37) aX3_answerOfCall_36 rfl rfl ?_
    refine w_isub (q := 38) aX3_answerOfCall_37 rfl ?_
    refine w_iret aX3_answerOfCall_38 rfl ?_
    have r1 := hR.upHo (S' := uC S (inc (sC S) 4)) rfl ⟨rfl, rfl, rfl, rfl, rfl, rfl, rfl, rfl⟩
    have r2 := r1.upHo (S' := uC S (inc (inc (sC S) 4) 9)) rfl ⟨rfl, rfl, rfl, rfl, rfl, rfl, rfl, rfl⟩
    have r3 := r2.upHo (S' := uC S (fu (inc (inc (sC S) 4) 9) 8 e)) rfl ⟨rfl, rfl, rfl, rfl, rfl, rfl, rfl, rfl⟩
    exact ⟨rfl, r3, ((fr.rf.up (AR_lit (by omega))).up (AR_lit (by omega))).up (AR_lit (by omega))⟩
  · rw [if_pos c1]
    refine w_aload_n (q := 5) aX3_answerOfCall_4 rfl rfl ?_
    refine w_get (q := 8) aX3_answerOfCall_5 f_3_77 (hR.ho) rfl rfl ?_
    refine w_iret aX3_answerOfCall_8 rfl ?_
    exact ⟨rfl, hR, fr.rf⟩
theorem c_shareTally {F : Nat} {h : mm_H} {S : St} {j : Nat} {v : Int64} (hj : j < 8) (hR : RC S h) : mW none F mX3_shareTally 0 [(0, .ref 1), (1, .int (nI j)), (2, .long v)] [] h (cP (if v = 0 then (1, S) else (0, uT S (fu (sT S) j (sT S j / v)))) h) := by
  refine w_lload_n (q := 1) aX3_shareTally_0 rfl rfl ?_
  refine w_lconst (v := 0) (q := 2) aX3_shareTally_1 rfl rfl ?_
  refine w_lcmp (q := 3) aX3_shareTally_2 rfl ?_
  refine w_if_ne (t := 8) (q := 6) aX3_shareTally_3 (by decide) rfl (fun c3 => ?_) (fun c3 => ?_)
  · have hv : ¬ v = 0 := fun z => c3 ((lg_cmp_eq _ _).mpr z)
    rw [if_neg hv]
    refine w_aload_n (q := 9) aX3_shareTally_8 rfl rfl ?_
    refine w_get (q := 12) aX3_shareTally_9 f_3_9 (hR.ho) rfl rfl ?_
    refine w_iload_n (q := 13) aX3_shareTally_12 rfl rfl ?_
    refine w_dup2 (q := 14) aX3_shareTally_13 ⟨rfl, rfl⟩ rfl ?_
    refine w_lald (q := 15) aX3_shareTally_14 (hR.ta) (mm_ix_at (n := j) rfl (by omega) (rg_at hj)) rfl ?_
    refine w_lload_n (q := 16) aX3_shareTally_15 rfl rfl ?_
    refine w_ldiv (q := 17) aX3_shareTally_16 (hv) rfl ?_
    refine w_last (q := 18) (n := j) (vs' := _) aX3_shareTally_17 (hR.ta) (rfl) (by rw [rg_len]; exact hj) (by rw [rg_len]; omega) (rg_set _ _ _ _) rfl ?_
    refine w_iconst (v := 0) (q := 19) aX3_shareTally_18 rfl rfl ?_
    refine w_iret aX3_shareTally_19 rfl ?_
    exact ⟨rfl, hR.upTa (by rw [fu_map Value.long]), fr.rf.up (AR_lit (by omega))⟩
  · rw [if_pos ((lg_cmp_eq _ _).mp c3)]
    refine w_iconst (v := 1) (q := 7) aX3_shareTally_6 rfl rfl ?_
    refine w_iret aX3_shareTally_7 rfl ?_
    exact ⟨rfl, hR, fr.rf⟩
theorem rL_i {v : Int64} (h : rL v) : ∃ j : Nat, j < 8 ∧ v.toInt32 = nI j := by
  obtain ⟨k, hk, rfl⟩ := pk_lOf h.1
  have h8 : k < 8 := (pk_lLT (b := 8) hk (by omega)).mp h.2
  exact ⟨k, h8, lN_i k⟩
theorem c_addAtPlace {F : Nat} {h : mm_H} {S : St} {v : Int64} {b : Int32} (hR : RC S h) : mW none (F + 1) mX3_addAtPlace 0 [(0, .ref 1), (1, .long v), (3, .int b)] [] h (cP (if rL v then (0, uT S (fu (sT S) v.toInt32.toNatClampNeg (sT S v.toInt32.toNatClampNeg + b.toInt64))) else (2, S)) h) := by
  refine w_lload_n (q := 1) aX3_addAtPlace_0 rfl rfl ?_
  refine w_callS aX3_addAtPlace_1 x_3_45 t_3_45 (rfl) (c_isTally) (fun r1 h1 hp => ?_)
  obtain ⟨rfl, rfl⟩ := hp
  refine w_if_ne (t := 9) (q := 7) aX3_addAtPlace_4 (by decide) rfl (fun c4 => ?_) (fun c4 => ?_)
  · have hv := bz_ne0 c4
    rw [if_pos hv]
    obtain ⟨j, hj, ej⟩ := rL_i hv
    refine w_aload_n (q := 10) aX3_addAtPlace_9 rfl rfl ?_
    refine w_get (q := 13) aX3_addAtPlace_10 f_3_9 (hR.ho) rfl rfl ?_
    refine w_lload_n (q := 14) aX3_addAtPlace_13 rfl rfl ?_
    refine w_l2i (q := 15) aX3_addAtPlace_14 rfl ?_
    refine w_dup2 (q := 16) aX3_addAtPlace_15 ⟨rfl, rfl⟩ rfl ?_
    rw [ej]
    refine w_lald (q := 17) aX3_addAtPlace_16 (hR.ta) (mm_ix_at (n := j) rfl (by omega) (rg_at hj)) rfl ?_
    refine w_iload_n (q := 18) aX3_addAtPlace_17 rfl rfl ?_
    refine w_i2l (q := 19) aX3_addAtPlace_18 rfl ?_
    refine w_ladd (q := 20) aX3_addAtPlace_19 rfl ?_
    refine w_last (q := 21) (n := j) (vs' := _) aX3_addAtPlace_20 (hR.ta) (rfl) (by rw [rg_len]; exact hj) (by rw [rg_len]; omega) (rg_set _ _ _ _) rfl ?_
    refine w_iconst (v := 0) (q := 22) aX3_addAtPlace_21 rfl rfl ?_
    refine w_iret aX3_addAtPlace_22 rfl ?_
    rw [nI_clamp (by omega)]
    exact ⟨rfl, hR.upTa (by rw [fu_map Value.long]), fr.rf.up (AR_lit (by omega))⟩
  · rw [if_neg (bz_eq0 c4)]
    refine w_iconst (v := 2) (q := 8) aX3_addAtPlace_7 rfl rfl ?_
    refine w_iret aX3_addAtPlace_8 rfl ?_
    exact ⟨rfl, hR, fr.rf⟩
/-- a hearer leaves the lines of the bells 0 .. n - 1 -/
def cutL (l : Nat → List Int32) (x : Int32) (n : Nat) : Nat → List Int32 := fun j => if j < n then (l j).erase x else l j
theorem l_removeAll {F : Nat} {S : St} {x : Int32} {h0 : mm_H} : ∀ (m k : Nat) (h : mm_H), m + k = 6 → RC (uL S (cutL (sL S) x k)) h → fr AR h0 h → mW none (F + 2) mX3_removeFromAllLines 2 [(2, .int (nI k)), (0, .ref 1), (1, .int x)] [] h (fun r h' => r = none ∧ RC (uL S (cutL (sL S) x 6)) h' ∧ fr AR h0 h') := by
  intro m
  induction m with
  | zero =>
    intro k h hk hR hf
    obtain rfl : k = 6 := by omega
    refine w_iload_n (q := 3) aX3_removeFromAllLines_2 rfl rfl ?_
    refine w_bipush (v := 6) (q := 5) aX3_removeFromAllLines_3 rfl rfl ?_
    refine w_ic_ge (t := 25) (q := 8) aX3_removeFromAllLines_5 (by decide) rfl (fun c5 => ?_) (fun c5 => ?_)
    · refine w_vret aX3_removeFromAllLines_25 rfl ?_
      exact ⟨rfl, hR, hf⟩
    · exact absurd (by decide) c5
  | succ m ih =>
    intro k h hk hR hf
    refine w_iload_n (q := 3) aX3_removeFromAllLines_2 rfl rfl ?_
    refine w_bipush (v := 6) (q := 5) aX3_removeFromAllLines_3 rfl rfl ?_
    refine w_ic_ge (t := 25) (q := 8) aX3_removeFromAllLines_5 (by decide) rfl (fun c5 => ?_) (fun c5 => ?_)
    · exact absurd c5 (nI_ge (b := 6) (by omega) (by omega))
    · obtain ⟨g, hg⟩ := hR.bel (k := k) (by omega)
      refine w_aload_n (q := 9) aX3_removeFromAllLines_8 rfl rfl ?_
      refine w_get (q := 12) aX3_removeFromAllLines_9 f_3_15 (hR.ho) rfl rfl ?_
      refine w_iload_n (q := 13) aX3_removeFromAllLines_12 rfl rfl ?_
      refine w_aald (q := 14) aX3_removeFromAllLines_13 (hR.be) (by decide) (mm_ix_at (n := k) rfl (by omega) (rg_at (by omega))) rfl ?_
      refine w_iload_n (q := 15) aX3_removeFromAllLines_14 rfl rfl ?_
      refine w_callV aX3_removeFromAllLines_15 t_3_71 (this_at rfl hg.1) (rfl) (c_remove hg) (fun r15 h15 hp => ?_)
      obtain ⟨rfl, hg2, hf2⟩ := hp
      refine w_pop (q := 19) aX3_removeFromAllLines_18 rfl rfl ?_
      refine w_iinc (q := 22) (ls' := [(2, _), (0, _), (1, _)]) aX3_removeFromAllLines_19 rfl rfl (by decide) rfl rfl ?_
      refine w_goto (t := 2) aX3_removeFromAllLines_22 (by decide) ?_
      have hR2 := hR.upBe (by omega) hf2 hg2
      rw [fu_id] at hR2
      have e : fu (sL (uL S (cutL (sL S) x k))) k ((sL (uL S (cutL (sL S) x k)) k).erase x) = cutL (sL S) x (k + 1) := by
        funext j
        show fu (cutL (sL S) x k) k ((cutL (sL S) x k k).erase x) j = _
        unfold cutL
        by_cases e : j = k
        · subst e
          rw [fu_s, if_neg (by omega), if_pos (by omega)]
        · rw [fu_n e]
          by_cases e2 : j < k
          · rw [if_pos e2, if_pos (by omega)]
          · rw [if_neg e2, if_neg (by omega)]
      rw [e] at hR2
      rw [show nI k + Int32.ofInt 1 = nI (k + 1) from nI_1 k]
      exact ih (k + 1) h15 (by omega) hR2 (hf.tr (fr_bell (by omega) hf2))
theorem c_removeAll {F : Nat} {h : mm_H} {S : St} {x : Int32} (hR : RC S h) : mW none (F + 2) mX3_removeFromAllLines 0 [(0, .ref 1), (1, .int x)] [] h (fun r h' => r = none ∧ RC (uL S (cutL (sL S) x 6)) h' ∧ fr AR h h') := by
  refine w_iconst (v := 0) (q := 1) aX3_removeFromAllLines_0 rfl rfl ?_
  refine w_istore_n (q := 2) (ls' := [(2, _), (0, _), (1, _)]) aX3_removeFromAllLines_1 (by decide) rfl rfl ?_
  have e : uL S (cutL (sL S) x 0) = S := by
    have : cutL (sL S) x 0 = sL S := by
      funext j
      unfold cutL
      rw [if_neg (by omega)]
    rw [this]
    rfl
  exact l_removeAll (h0 := h) 6 0 h rfl (by rw [e]; exact hR) fr.rf
/-- a bell meets what came up to it -/
def m_bell (S : St) (k : Nat) (e : Int32) : Int32 × St := if ¬ sW S k = 0 ∧ m_met e then (0, uC S (inc (inc (sC S) 3) 9)) else (e, S)
theorem c_metByBell {F : Nat} {h : mm_H} {S : St} {k : Nat} {e : Int32} (hk : k < 6) (hR : RC S h) : mW none (F + 1) mX3_metByBell 0 [(0, .ref 1), (1, .ref (18 + 2 * k)), (2, .int e)] [] h (cP (m_bell S k e) h) := by
  obtain ⟨g, hg⟩ := hR.bel hk
  unfold m_bell
  have bad : ¬ (¬ sW S k = 0 ∧ m_met e) → mW none (F + 1) mX3_metByBell 14 [(0, .ref 1), (1, .ref (18 + 2 * k)), (2, .int e)] [] h (cP (if ¬ sW S k = 0 ∧ m_met e then (0, uC S (inc (inc (sC S) 3) 9)) else (e, S)) h) := fun hn => by
    rw [if_neg hn]
    refine w_iload_n (q := 15) aX3_metByBell_14 rfl rfl ?_
    refine w_iret aX3_metByBell_15 rfl ?_
    exact ⟨rfl, hR, fr.rf⟩
  refine w_aload_n (q := 1) aX3_metByBell_0 rfl rfl ?_
  refine w_get (q := 4) aX3_metByBell_1 f_3_53 (hg.1) rfl rfl ?_
  refine w_if_eq (t := 14) (q := 7) aX3_metByBell_4 (by decide) rfl (fun c4 => ?_) (fun c4 => ?_)
  · exact bad (fun z => z.1 c4)
  · refine w_iload_n (q := 8) aX3_metByBell_7 rfl rfl ?_
    refine w_callS aX3_metByBell_8 x_3_210 t_3_210 (rfl) (c_canBeMet) (fun r8 h8 hp => ?_)
    obtain ⟨rfl, rfl⟩ := hp
    refine w_if_ne (t := 16) (q := 14) aX3_metByBell_11 (by decide) rfl (fun c11 => ?_) (fun c11 => ?_)
    · rw [if_pos ⟨c4, bz_ne0 c11⟩]
      refine w_aload_n (q := 17) aX3_metByBell_16 rfl rfl ?_
      refine w_dup (q := 18) aX3_metByBell_17 rfl rfl ?_
      refine w_get (q := 21) aX3_metByBell_18 f_3_109 (hR.ho) rfl rfl ?_
      refine w_iconst (v := 1) (q := 22) aX3_metByBell_21 rfl rfl ?_
      refine w_iadd (q := 23) aX3_metByBell_22 rfl ?_
      refine w_put (q := 26) (fs' := [_, _, _, _, _, _, _, _, _, _, _, _, _, _, _, _, _]) aX3_metByBell_23 f_3_109 (hR.ho) (Nat.le_of_ble_eq_true rfl) rfl rfl (Or.inl rfl) rfl rfl ?_
      refine w_aload_n (q := 27) aX3_metByBell_26 rfl rfl ?_
      refine w_dup (q := 28) aX3_metByBell_27 rfl rfl ?_
      refine w_get (q := 31) aX3_metByBell_28 f_3_74 (up_s _ _ _) rfl rfl ?_
      refine w_iconst (v := 1) (q := 32) aX3_metByBell_31 rfl rfl ?_
      refine w_iadd (q := 33) aX3_metByBell_32 rfl ?_
      refine w_put (q := 36) (fs' := [_, _, _, _, _, _, _, _, _, _, _, _, _, _, _, _, _]) aX3_metByBell_33 f_3_74 (up_s _ _ _) (Nat.le_of_ble_eq_true rfl) rfl rfl (Or.inl rfl) rfl rfl ?_
      refine w_iconst (v := 0) (q := 37) aX3_metByBell_36 rfl rfl ?_
      refine w_iret aX3_metByBell_37 rfl ?_
      have r1 := hR.upHo (S' := uC S (inc (sC S) 3)) rfl ⟨rfl, rfl, rfl, rfl, rfl, rfl, rfl, rfl⟩
      have r2 := r1.upHo (S' := uC S (inc (inc (sC S) 3) 9)) rfl ⟨rfl, rfl, rfl, rfl, rfl, rfl, rfl, rfl⟩
      exact ⟨rfl, r2, (fr.rf.up (AR_lit (by omega))).up (AR_lit (by omega))⟩
    · exact bad (fun z => bz_eq0 c11 z.2)
/-- a TRY meets what came up to it: t is its tally -/
def m_try (S : St) (t : Nat) (e : Int32) : Int32 × St := if m_met e then (0, uC (uT S (fu (sT S) t (sT S t + 1))) (inc (inc (sC S) 5) 9)) else (e, S)
theorem c_metByTry {F : Nat} {h : mm_H} {S : St} {k t : Nat} {e : Int32} (hk : k < sM S) (ht : t < 8) (hb : (sA S k).2.2.1 = nI t) (hR : RC S h) : mW none (F + 1) mX3_metByTry 0 [(0, .ref 1), (1, .ref (aa k)), (2, .int e)] [] h (cP (m_try S t e) h) := by
  unfold m_try
  refine w_iload_n (q := 1) aX3_metByTry_0 rfl rfl ?_
  refine w_callS aX3_metByTry_1 x_3_210 t_3_210 (rfl) (c_canBeMet) (fun r1 h1 hp => ?_)
  obtain ⟨rfl, rfl⟩ := hp
  refine w_if_ne (t := 9) (q := 7) aX3_metByTry_4 (by decide) rfl (fun c4 => ?_) (fun c4 => ?_)
  · rw [if_pos (bz_ne0 c4)]
    refine w_aload_n (q := 10) aX3_metByTry_9 rfl rfl ?_
    refine w_get (q := 13) aX3_metByTry_10 f_3_9 (hR.ho) rfl rfl ?_
    refine w_aload_n (q := 14) aX3_metByTry_13 rfl rfl ?_
    refine w_get (q := 17) aX3_metByTry_14 f_3_166 (hR.ac hk) rfl rfl ?_
    rw [hb]
    refine w_dup2 (q := 18) aX3_metByTry_17 ⟨rfl, rfl⟩ rfl ?_
    refine w_lald (q := 19) aX3_metByTry_18 (hR.ta) (mm_ix_at (n := t) rfl (by omega) (rg_at ht)) rfl ?_
    refine w_lconst (v := 1) (q := 20) aX3_metByTry_19 rfl rfl ?_
    refine w_ladd (q := 21) aX3_metByTry_20 rfl ?_
    refine w_last (q := 22) (n := t) (vs' := _) aX3_metByTry_21 (hR.ta) (rfl) (by rw [rg_len]; exact ht) (by rw [rg_len]; omega) (rg_set _ _ _ _) rfl ?_
    refine w_aload_n (q := 23) aX3_metByTry_22 rfl rfl ?_
    refine w_dup (q := 24) aX3_metByTry_23 rfl rfl ?_
    refine w_get (q := 27) aX3_metByTry_24 f_3_115 ((up_n (by decide)).trans hR.ho) rfl rfl ?_
    refine w_iconst (v := 1) (q := 28) aX3_metByTry_27 rfl rfl ?_
    refine w_iadd (q := 29) aX3_metByTry_28 rfl ?_
    refine w_put (q := 32) (fs' := [_, _, _, _, _, _, _, _, _, _, _, _, _, _, _, _, _]) aX3_metByTry_29 f_3_115 ((up_n (by decide)).trans hR.ho) (Nat.le_of_ble_eq_true rfl) rfl rfl (Or.inl rfl) rfl rfl ?_
    refine w_aload_n (q := 33) aX3_metByTry_32 rfl rfl ?_
    refine w_dup (q := 34) aX3_metByTry_33 rfl rfl ?_
    refine w_get (q := 37) aX3_metByTry_34 f_3_74 (up_s _ _ _) rfl rfl ?_
    refine w_iconst (v := 1) (q := 38) aX3_metByTry_37 rfl rfl ?_
    refine w_iadd (q := 39) aX3_metByTry_38 rfl ?_
    refine w_put (q := 42) (fs' := [_, _, _, _, _, _, _, _, _, _, _, _, _, _, _, _, _]) aX3_metByTry_39 f_3_74 (up_s _ _ _) (Nat.le_of_ble_eq_true rfl) rfl rfl (Or.inl rfl) rfl rfl ?_
    refine w_iconst (v := 0) (q := 43) aX3_metByTry_42 rfl rfl ?_
    refine w_iret aX3_metByTry_43 rfl ?_
    have r0 := hR.upTa (t := fu (sT S) t (sT S t + 1)) rfl
    rw [← fu_map Value.long] at r0
    have r1 := r0.upHo (S' := uC (uT S (fu (sT S) t (sT S t + 1))) (inc (sC S) 5)) rfl ⟨rfl, rfl, rfl, rfl, rfl, rfl, rfl, rfl⟩
    have r2 := r1.upHo (S' := uC (uT S (fu (sT S) t (sT S t + 1))) (inc (inc (sC S) 5) 9)) rfl ⟨rfl, rfl, rfl, rfl, rfl, rfl, rfl, rfl⟩
    exact ⟨rfl, r2, ((fr.rf.up (AR_lit (by omega))).up (AR_lit (by omega))).up (AR_lit (by omega))⟩
  · rw [if_neg (bz_eq0 c4)]
    refine w_iload_n (q := 8) aX3_metByTry_7 rfl rfl ?_
    refine w_iret aX3_metByTry_8 rfl ?_
    exact ⟨rfl, hR, fr.rf⟩
