/-- a stop takes the pile off, its top first, to the ringing that it ends -/
def r_stop : List Fr → St → St × List Fr
  | [], S => (S, [])
  | f :: Q, S => if f.1 = 0 then (uD S (sD S - 1), Q) else r_stop Q S
theorem x_stop {F : Nat} {u : Int64} {h0 h : mm_H} {S : St} {P : List Fr} (hR : RM S P (0, 0, -1, u) h) (hf : fr AM h0 h) : mW none F mX4_stop 18 [(1, .int 0), (0, .ref 32)] [] h (fun r h' => r = none ∧ RM S P (0, 0, -1, u) h' ∧ fr AM h0 h') := by
  refine w_iload_n (q := 19) aX4_stop_18 rfl rfl ?_
  refine w_if_eq (t := 86) (q := 22) aX4_stop_19 (by decide) rfl (fun c19 => ?_) (fun c19 => ?_)
  · refine w_vret aX4_stop_86 rfl ?_
    exact ⟨rfl, hR, hf⟩
  · exact absurd rfl c19
theorem m_stop {F : Nat} {u : Int64} {h0 : mm_H} : ∀ (Q : List Fr) (S : St) (h : mm_H), Q.length ≤ 600 → nR Q ≤ sD S → RM S Q.reverse (0, 0, -1, u) h → fr AM h0 h → mW none F mX4_stop 18 [(1, .int (if Q = [] then 0 else 1)), (0, .ref 32)] [] h (fun r h' => r = none ∧ RM (r_stop Q S).1 (r_stop Q S).2.reverse (0, 0, -1, u) h' ∧ fr AM h0 h') := by
  intro Q
  induction Q with
  | nil =>
    intro S h _ _ hR hf
    rw [if_pos rfl]
    exact x_stop hR hf
  | cons f Q ih =>
    intro S h hlen hnr hR hf
    have hPl : Q.reverse.length = Q.length := List.length_reverse
    rw [if_neg (List.cons_ne_nil _ _)]
    rw [List.reverse_cons] at hR
    generalize hP : Q.reverse = P at hR hPl
    have hlen2 : P.length < 600 := by have : (f :: Q).length = Q.length + 1 := rfl; omega
    obtain ⟨w, hm0, r1, r2, r3, r4⟩ := hR
    have hm : hM S (P.length + 1) (0, 0, -1, u) w h := by rw [List.length_append] at hm0; exact hm0
    obtain ⟨p1, -⟩ := r4.top
    have r5 := r4.pop
    unfold r_stop
    have t57 : ∀ (y : Int32) (h1 : mm_H), y = (if f.1 = 0 then 0 else if Q = [] then 0 else 1) → hM S P.length (0, 0, -1, u) w h1 → fr AM h0 h1 → mW none F mX4_stop 57 [(1, .int y), (0, .ref 32)] [] h1 (fun r h' => r = none ∧ RM (if f.1 = 0 then (uD S (sD S - 1), Q) else r_stop Q S).1 (if f.1 = 0 then (uD S (sD S - 1), Q) else r_stop Q S).2.reverse (0, 0, -1, u) h' ∧ fr AM h0 h') := fun y h1 hy hm hf => by
      refine w_aload_n (q := 58) aX4_stop_57 rfl rfl ?_
      refine w_dup (q := 59) aX4_stop_58 rfl rfl ?_
      refine w_get (q := 62) aX4_stop_59 f_4_123 (hm 32 (by decide) (by decide)) rfl rfl ?_
      refine w_aload_n (q := 63) aX4_stop_62 rfl rfl ?_
      refine w_get (q := 66) aX4_stop_63 f_4_56 (hm 32 (by decide) (by decide)) rfl rfl ?_
      refine w_aload_n (q := 67) aX4_stop_66 rfl rfl ?_
      refine w_get (q := 70) aX4_stop_67 f_4_120 (hm 32 (by decide) (by decide)) rfl rfl ?_
      refine w_iald (q := 71) aX4_stop_70 (by decide) (hm 48 (by decide) (by decide)) (mm_ix_at (n := P.length) rfl (by omega) (rg_at (by omega))) rfl ?_
      rw [p1]
      refine w_if_ne (t := 78) (q := 74) aX4_stop_71 (by decide) rfl (fun c71 => ?_) (fun c71 => ?_)
      · rw [if_neg c71] at hy
        rw [if_neg c71]
        refine w_iconst (v := 0) (q := 79) aX4_stop_78 rfl rfl ?_
        refine w_isub (q := 80) aX4_stop_79 rfl ?_
        rw [show nI (sD S) - 0 = nI (sD S) from by simp]
        refine w_put (q := 83) (fs' := [_, _, _, _, _, _, _, _, _, _, _, _, _, _, _, _, _, _, _, _, _, _, _, _, _, _, _, _, _, _, _]) aX4_stop_80 f_4_123 (hm 32 (by decide) (by decide)) (Nat.le_of_ble_eq_true rfl) rfl rfl (Or.inl rfl) rfl rfl ?_
        refine w_goto (t := 18) aX4_stop_83 (by decide) ?_
        rw [hy]
        unfold nR at hnr
        rw [if_neg c71] at hnr
        refine ih S _ (by have : (f :: Q).length = Q.length + 1 := rfl; omega) hnr ⟨w, ?_, r1, r2, r3, by rw [hP]; exact r5⟩ (hf.up (AM_l (by omega)))
        rw [hP]
        intro q h1 h2
        rcases q23 q h1 h2 with rfl | rfl | rfl | rfl | rfl | rfl | rfl | rfl | rfl | rfl | rfl | rfl | rfl | rfl | rfl | rfl | rfl | rfl | rfl | rfl | rfl | rfl | rfl <;> first | exact hm _ h1 h2 |  rfl
      · rw [if_pos c71] at hy
        rw [if_pos c71]
        refine w_iconst (v := 1) (q := 75) aX4_stop_74 rfl rfl ?_
        refine w_goto (t := 79) aX4_stop_75 (by decide) ?_
        refine w_isub (q := 80) aX4_stop_79 rfl ?_
        unfold nR at hnr
        rw [if_pos c71] at hnr
        obtain ⟨d, hd⟩ : ∃ d, sD S = d + 1 := ⟨sD S - 1, by omega⟩
        rw [show nI (sD S) - 1 = nI (sD S - 1) by rw [hd, nI_pred]; rfl]
        refine w_put (q := 83) (fs' := [_, _, _, _, _, _, _, _, _, _, _, _, _, _, _, _, _, _, _, _, _, _, _, _, _, _, _, _, _, _, _]) aX4_stop_80 f_4_123 (hm 32 (by decide) (by decide)) (Nat.le_of_ble_eq_true rfl) rfl rfl (Or.inl rfl) rfl rfl ?_
        refine w_goto (t := 18) aX4_stop_83 (by decide) ?_
        rw [hy]
        refine x_stop (S := uD S (sD S - 1)) (P := Q.reverse) (u := u) ⟨w, ?_, r1, r2, r3, by rw [hP]; exact r5⟩ (hf.up (AM_l (by omega)))
        rw [hP]
        intro q h1 h2
        rcases q23 q h1 h2 with rfl | rfl | rfl | rfl | rfl | rfl | rfl | rfl | rfl | rfl | rfl | rfl | rfl | rfl | rfl | rfl | rfl | rfl | rfl | rfl | rfl | rfl | rfl <;> first | exact hm _ h1 h2 |  rfl
    refine w_iload_n (q := 19) aX4_stop_18 rfl rfl ?_
    refine w_if_eq (t := 86) (q := 22) aX4_stop_19 (by decide) rfl (fun c19 => ?_) (fun c19 => ?_)
    · exact absurd c19 (by decide)
    · refine w_aload_n (q := 23) aX4_stop_22 rfl rfl ?_
      refine w_dup (q := 24) aX4_stop_23 rfl rfl ?_
      refine w_get (q := 27) aX4_stop_24 f_4_120 (hm 32 (by decide) (by decide)) rfl rfl ?_
      refine w_iconst (v := 1) (q := 28) aX4_stop_27 rfl rfl ?_
      refine w_isub (q := 29) aX4_stop_28 rfl ?_
      rw [nI_pred]
      refine w_put (q := 32) (fs' := [_, _, _, _, _, _, _, _, _, _, _, _, _, _, _, _, _, _, _, _, _, _, _, _, _, _, _, _, _, _, _]) aX4_stop_29 f_4_120 (hm 32 (by decide) (by decide)) (Nat.le_of_ble_eq_true rfl) rfl rfl (Or.inl rfl) rfl rfl ?_
      refine w_aload_n (q := 33) aX4_stop_32 rfl rfl ?_
      refine w_get (q := 36) aX4_stop_33 f_4_120 (up_s _ _ _) rfl rfl ?_
      have hm2 : hM S P.length (0, 0, -1, u) w (mm_up h 32 (4, moL S P.length (0, 0, -1, u))) := by
        intro q h1 h2
        rcases q23 q h1 h2 with rfl | rfl | rfl | rfl | rfl | rfl | rfl | rfl | rfl | rfl | rfl | rfl | rfl | rfl | rfl | rfl | rfl | rfl | rfl | rfl | rfl | rfl | rfl <;> first | exact hm _ h1 h2 |  rfl
      have hf2 : fr AM h0 (mm_up h 32 (4, moL S P.length (0, 0, -1, u))) := hf.up (AM_l (by omega))
      refine w_if_le (t := 55) (q := 39) aX4_stop_36 (by decide) rfl (fun c36 => ?_) (fun c36 => ?_)
      · have hz : Q = [] := by
          have : P.length ≤ 0 := (nI_leI (b := 0) (by omega) (by omega)).mp c36
          exact List.length_eq_zero_iff.mp (by omega)
        refine w_iconst (v := 0) (q := 56) aX4_stop_55 rfl rfl ?_
        refine w_istore_n (q := 57) (ls' := [(1, _), (0, _)]) aX4_stop_56 (by decide) rfl rfl ?_
        exact t57 0 _ (by rw [if_pos hz]; split <;> rfl) hm2 hf2
      · have hz : ¬ Q = [] := fun z => c36 (by rw [z] at hPl; rw [hPl]; decide)
        refine w_aload_n (q := 40) aX4_stop_39 rfl rfl ?_
        refine w_get (q := 43) aX4_stop_40 f_4_56 (up_s _ _ _) rfl rfl ?_
        refine w_aload_n (q := 44) aX4_stop_43 rfl rfl ?_
        refine w_get (q := 47) aX4_stop_44 f_4_120 (up_s _ _ _) rfl rfl ?_
        refine w_iald (q := 48) aX4_stop_47 (by decide) ((up_n (by decide)).trans (hm 48 (by decide) (by decide))) (mm_ix_at (n := P.length) rfl (by omega) (rg_at (by omega))) rfl ?_
        rw [p1]
        refine w_if_eq (t := 55) (q := 51) aX4_stop_48 (by decide) rfl (fun c48 => ?_) (fun c48 => ?_)
        · refine w_iconst (v := 0) (q := 56) aX4_stop_55 rfl rfl ?_
          refine w_istore_n (q := 57) (ls' := [(1, _), (0, _)]) aX4_stop_56 (by decide) rfl rfl ?_
          exact t57 0 _ (by rw [if_pos c48]) hm2 hf2
        · skip
          refine w_iconst (v := 1) (q := 52) aX4_stop_51 rfl rfl ?_
          refine w_goto (t := 56) aX4_stop_52 (by decide) ?_
          refine w_istore_n (q := 57) (ls' := [(1, _), (0, _)]) aX4_stop_56 (by decide) rfl rfl ?_
          exact t57 1 _ (by rw [if_neg c48, if_neg hz]) hm2 hf2
theorem d_stop {F : Nat} {u : Int64} {Q : List Fr} {S : St} {h : mm_H} (hl : Q.length ≤ 600) (hn : nR Q ≤ sD S) (hR : RM S Q.reverse (0, 1, -1, u) h) : mW none F mX4_stop 0 [(0, .ref 32)] [] h (fun r h' => r = none ∧ RM (r_stop Q S).1 (r_stop Q S).2.reverse (0, 0, -1, u) h' ∧ fr AM h h') := by
  obtain ⟨w, hm, r1, r2, r3, r4⟩ := hR
  have hm2 : hM S Q.reverse.length (0, 0, -1, u) w (mm_up h 32 (4, moL S Q.reverse.length (0, 0, -1, u))) := by
    intro q h1 h2
    rcases q23 q h1 h2 with rfl | rfl | rfl | rfl | rfl | rfl | rfl | rfl | rfl | rfl | rfl | rfl | rfl | rfl | rfl | rfl | rfl | rfl | rfl | rfl | rfl | rfl | rfl <;> first | exact hm _ h1 h2 |  rfl
  have k := m_stop (F := F) (h0 := h) Q S _ hl hn ⟨w, hm2, r1, r2, r3, r4⟩ (fr.rf.up (AM_l (by omega)))
  refine w_aload_n (q := 1) aX4_stop_0 rfl rfl ?_
  refine w_iconst (v := 0) (q := 2) aX4_stop_1 rfl rfl ?_
  refine w_put (q := 5) (fs' := [_, _, _, _, _, _, _, _, _, _, _, _, _, _, _, _, _, _, _, _, _, _, _, _, _, _, _, _, _, _, _]) aX4_stop_2 f_4_150 (hm 32 (by decide) (by decide)) (Nat.le_of_ble_eq_true rfl) rfl rfl (Or.inl rfl) rfl rfl ?_
  refine w_aload_n (q := 6) aX4_stop_5 rfl rfl ?_
  refine w_get (q := 9) aX4_stop_6 f_4_120 (up_s _ _ _) rfl rfl ?_
  refine w_if_le (t := 16) (q := 12) aX4_stop_9 (by decide) rfl (fun c9 => ?_) (fun c9 => ?_)
  · have hz : Q = [] := by
      have : Q.reverse.length ≤ 0 := (nI_leI (b := 0) (by rw [List.length_reverse]; omega) (by omega)).mp c9
      rw [List.length_reverse] at this
      exact List.length_eq_zero_iff.mp (by omega)
    rw [if_pos hz] at k
    refine w_iconst (v := 0) (q := 17) aX4_stop_16 rfl rfl ?_
    refine w_istore_n (q := 18) (ls' := [(1, _), (0, _)]) aX4_stop_17 (by decide) rfl rfl ?_
    exact k
  · have hz : ¬ Q = [] := fun z => c9 (by rw [z]; decide)
    rw [if_neg hz] at k
    refine w_iconst (v := 1) (q := 13) aX4_stop_12 rfl rfl ?_
    refine w_goto (t := 17) aX4_stop_13 (by decide) ?_
    refine w_istore_n (q := 18) (ls' := [(1, _), (0, _)]) aX4_stop_17 (by decide) rfl rfl ?_
    exact k
/-! how it goes on from the frame f -/
theorem d_go12 {F : Nat} {u : Int64} {P : List Fr} {f : Fr} {S : St} {h : mm_H} {X : Xs} (hl : P.length < 600) (h0 : ¬ f.1 = 0) (h2 : f.1 = 2 → ∃ o : Option Nat, f.2.1 = oI o ∧ (∀ k, o = some k → k < 2 ^ 31) ∧ X = Xb o f.2.2.1 u) (h1 : ¬ f.1 = 2 → X = (0, 0, -1, u)) (hR : RM S (P ++ [f]) (0, 0, -1, u) h) : mW none (F + 1) mX4_goesOn 0 [(0, .ref 32)] [] h (fun r h' => r = none ∧ RM S P X h' ∧ fr AM h h') := by
  obtain ⟨w, hm0, r1, r2, r3, r4⟩ := hR
  have hm : hM S (P.length + 1) (0, 0, -1, u) w h := by rw [List.length_append] at hm0; exact hm0
  obtain ⟨p1, p2, p3, -⟩ := r4.top
  have r5 := r4.pop
  refine w_aload_n (q := 1) aX4_goesOn_0 rfl rfl ?_
  refine w_get (q := 4) aX4_goesOn_1 f_4_120 (hm 32 (by decide) (by decide)) rfl rfl ?_
  refine w_iconst (v := 1) (q := 5) aX4_goesOn_4 rfl rfl ?_
  refine w_isub (q := 6) aX4_goesOn_5 rfl ?_
  rw [nI_pred]
  refine w_istore_n (q := 7) (ls' := [(1, _), (0, _)]) aX4_goesOn_6 (by decide) rfl rfl ?_
  refine w_aload_n (q := 8) aX4_goesOn_7 rfl rfl ?_
  refine w_get (q := 11) aX4_goesOn_8 f_4_56 (hm 32 (by decide) (by decide)) rfl rfl ?_
  refine w_iload_n (q := 12) aX4_goesOn_11 rfl rfl ?_
  refine w_iald (q := 13) aX4_goesOn_12 (by decide) (hm 48 (by decide) (by decide)) (mm_ix_at (n := P.length) rfl (by omega) (rg_at (by omega))) rfl ?_
  rw [p1]
  refine w_if_eq (t := 53) (q := 16) aX4_goesOn_13 (by decide) rfl (fun c13 => ?_) (fun c13 => ?_)
  · exact absurd c13 h0
  · refine w_aload_n (q := 17) aX4_goesOn_16 rfl rfl ?_
    refine w_dup (q := 18) aX4_goesOn_17 rfl rfl ?_
    refine w_get (q := 21) aX4_goesOn_18 f_4_120 (hm 32 (by decide) (by decide)) rfl rfl ?_
    refine w_iconst (v := 1) (q := 22) aX4_goesOn_21 rfl rfl ?_
    refine w_isub (q := 23) aX4_goesOn_22 rfl ?_
    rw [nI_pred]
    refine w_put (q := 26) (fs' := [_, _, _, _, _, _, _, _, _, _, _, _, _, _, _, _, _, _, _, _, _, _, _, _, _, _, _, _, _, _, _]) aX4_goesOn_23 f_4_120 (hm 32 (by decide) (by decide)) (Nat.le_of_ble_eq_true rfl) rfl rfl (Or.inl rfl) rfl rfl ?_
    have hm2 : hM S P.length (0, 0, -1, u) w (mm_up h 32 (4, moL S P.length (0, 0, -1, u))) := by
      intro q h1 h2
      rcases q23 q h1 h2 with rfl | rfl | rfl | rfl | rfl | rfl | rfl | rfl | rfl | rfl | rfl | rfl | rfl | rfl | rfl | rfl | rfl | rfl | rfl | rfl | rfl | rfl | rfl <;> first | exact hm _ h1 h2 |  rfl
    have hf2 : fr AM h (mm_up h 32 (4, moL S P.length (0, 0, -1, u))) := fr.rf.up (AM_l (by omega))
    refine w_aload_n (q := 27) aX4_goesOn_26 rfl rfl ?_
    refine w_get (q := 30) aX4_goesOn_27 f_4_56 (up_s _ _ _) rfl rfl ?_
    refine w_iload_n (q := 31) aX4_goesOn_30 rfl rfl ?_
    refine w_iald (q := 32) aX4_goesOn_31 (by decide) ((up_n (by decide)).trans (hm 48 (by decide) (by decide))) (mm_ix_at (n := P.length) rfl (by omega) (rg_at (by omega))) rfl ?_
    rw [p1]
    refine w_iconst (v := 2) (q := 33) aX4_goesOn_32 rfl rfl ?_
    refine w_ic_ne (t := 52) (q := 36) aX4_goesOn_33 (by decide) rfl (fun c33 => ?_) (fun c33 => ?_)
    · refine w_vret aX4_goesOn_52 rfl ?_
      rw [h1 c33]
      exact ⟨rfl, ⟨w, hm2, r1, r2, r3, r5⟩, hf2⟩
    · obtain ⟨o, eo, ho, eX⟩ := h2 c33
      rw [eo] at p2
      refine w_aload_n (q := 37) aX4_goesOn_36 rfl rfl ?_
      refine w_aload_n (q := 38) aX4_goesOn_37 rfl rfl ?_
      refine w_get (q := 41) aX4_goesOn_38 f_4_59 (up_s _ _ _) rfl rfl ?_
      refine w_iload_n (q := 42) aX4_goesOn_41 rfl rfl ?_
      refine w_iald (q := 43) aX4_goesOn_42 (by decide) ((up_n (by decide)).trans (hm 49 (by decide) (by decide))) (mm_ix_at (n := P.length) rfl (by omega) (rg_at (by omega))) rfl ?_
      rw [p2]
      refine w_aload_n (q := 44) aX4_goesOn_43 rfl rfl ?_
      refine w_get (q := 47) aX4_goesOn_44 f_4_62 (up_s _ _ _) rfl rfl ?_
      refine w_iload_n (q := 48) aX4_goesOn_47 rfl rfl ?_
      refine w_lald (q := 49) aX4_goesOn_48 ((up_n (by decide)).trans (hm 50 (by decide) (by decide))) (mm_ix_at (n := P.length) rfl (by omega) (rg_at (by omega))) rfl ?_
      rw [p3]
      refine w_callV aX4_goesOn_49 t_4_157 (this_at rfl (up_s _ _ _)) (rfl) (d_begins ho ⟨w, hm2, r1, r2, r3, r5⟩) (fun r49 h49 hp => ?_)
      obtain ⟨rfl, hR2, hf3⟩ := hp
      refine w_vret aX4_goesOn_52 rfl ?_
      rw [eX]
      exact ⟨rfl, hR2, hf2.tr hf3⟩
theorem d_go0e {F : Nat} {u : Int64} {P : List Fr} {i : Int32} {v : Int64} {l : List Int32} {S : St} {h : mm_H} (hl : P.length < 600) (hd : 1 ≤ sD S) (hR : RM S (P ++ [(0, i, v, l, l.length)]) (0, 0, -1, u) h) : mW none (F + 1) mX4_goesOn 0 [(0, .ref 32)] [] h (fun r h' => r = none ∧ RM (uD S (sD S - 1)) P (0, 0, -1, u) h' ∧ fr AM h h') := by
  obtain ⟨w, hm0, r1, r2, r3, r4⟩ := hR
  have hm : hM S (P.length + 1) (0, 0, -1, u) w h := by rw [List.length_append] at hm0; exact hm0
  obtain ⟨p1, p2, p3, p4⟩ := r4.top
  obtain ⟨q1, q2, q3, q4⟩ := p4 rfl
  have r5 := r4.pop
  refine w_aload_n (q := 1) aX4_goesOn_0 rfl rfl ?_
  refine w_get (q := 4) aX4_goesOn_1 f_4_120 (hm 32 (by decide) (by decide)) rfl rfl ?_
  refine w_iconst (v := 1) (q := 5) aX4_goesOn_4 rfl rfl ?_
  refine w_isub (q := 6) aX4_goesOn_5 rfl ?_
  rw [nI_pred]
  refine w_istore_n (q := 7) (ls' := [(1, _), (0, _)]) aX4_goesOn_6 (by decide) rfl rfl ?_
  refine w_aload_n (q := 8) aX4_goesOn_7 rfl rfl ?_
  refine w_get (q := 11) aX4_goesOn_8 f_4_56 (hm 32 (by decide) (by decide)) rfl rfl ?_
  refine w_iload_n (q := 12) aX4_goesOn_11 rfl rfl ?_
  refine w_iald (q := 13) aX4_goesOn_12 (by decide) (hm 48 (by decide) (by decide)) (mm_ix_at (n := P.length) rfl (by omega) (rg_at (by omega))) rfl ?_
  rw [p1]
  refine w_if_eq (t := 53) (q := 16) aX4_goesOn_13 (by decide) rfl (fun c13 => ?_) (fun c13 => ?_)
  · refine w_aload_n (q := 54) aX4_goesOn_53 rfl rfl ?_
    refine w_get (q := 57) aX4_goesOn_54 f_4_65 (hm 32 (by decide) (by decide)) rfl rfl ?_
    refine w_iload_n (q := 58) aX4_goesOn_57 rfl rfl ?_
    refine w_iald (q := 59) aX4_goesOn_58 (by decide) (hm 51 (by decide) (by decide)) (mm_ix_at (n := P.length) rfl (by omega) (rg_at (by omega))) rfl ?_
    rw [q1]
    refine w_aload_n (q := 60) aX4_goesOn_59 rfl rfl ?_
    refine w_get (q := 63) aX4_goesOn_60 f_4_68 (hm 32 (by decide) (by decide)) rfl rfl ?_
    refine w_iload_n (q := 64) aX4_goesOn_63 rfl rfl ?_
    refine w_iald (q := 65) aX4_goesOn_64 (by decide) (hm 52 (by decide) (by decide)) (mm_ix_at (n := P.length) rfl (by omega) (rg_at (by omega))) rfl ?_
    rw [q2]
    refine w_ic_ne (t := 89) (q := 68) aX4_goesOn_65 (by decide) rfl (fun c65 => ?_) (fun c65 => ?_)
    · exact absurd rfl c65
    · refine w_aload_n (q := 69) aX4_goesOn_68 rfl rfl ?_
      refine w_dup (q := 70) aX4_goesOn_69 rfl rfl ?_
      refine w_get (q := 73) aX4_goesOn_70 f_4_120 (hm 32 (by decide) (by decide)) rfl rfl ?_
      refine w_iconst (v := 1) (q := 74) aX4_goesOn_73 rfl rfl ?_
      refine w_isub (q := 75) aX4_goesOn_74 rfl ?_
      rw [nI_pred]
      refine w_put (q := 78) (fs' := [_, _, _, _, _, _, _, _, _, _, _, _, _, _, _, _, _, _, _, _, _, _, _, _, _, _, _, _, _, _, _]) aX4_goesOn_75 f_4_120 (hm 32 (by decide) (by decide)) (Nat.le_of_ble_eq_true rfl) rfl rfl (Or.inl rfl) rfl rfl ?_
      refine w_aload_n (q := 79) aX4_goesOn_78 rfl rfl ?_
      refine w_dup (q := 80) aX4_goesOn_79 rfl rfl ?_
      refine w_get (q := 83) aX4_goesOn_80 f_4_123 (up_s _ _ _) rfl rfl ?_
      refine w_iconst (v := 1) (q := 84) aX4_goesOn_83 rfl rfl ?_
      refine w_isub (q := 85) aX4_goesOn_84 rfl ?_
      obtain ⟨d, hd⟩ : ∃ d, sD S = d + 1 := ⟨sD S - 1, by omega⟩
      rw [show nI (sD S) - 1 = nI (sD S - 1) by rw [hd, nI_pred]; rfl]
      refine w_put (q := 88) (fs' := [_, _, _, _, _, _, _, _, _, _, _, _, _, _, _, _, _, _, _, _, _, _, _, _, _, _, _, _, _, _, _]) aX4_goesOn_85 f_4_123 (up_s _ _ _) (Nat.le_of_ble_eq_true rfl) rfl rfl (Or.inl rfl) rfl rfl ?_
      refine w_vret aX4_goesOn_88 rfl ?_
      refine ⟨rfl, ⟨w, ?_, r1, r2, r3, r5⟩, (fr.rf.up (AM_l (by omega))).up (AM_l (by omega))⟩
      intro q h1 h2
      rcases q23 q h1 h2 with rfl | rfl | rfl | rfl | rfl | rfl | rfl | rfl | rfl | rfl | rfl | rfl | rfl | rfl | rfl | rfl | rfl | rfl | rfl | rfl | rfl | rfl | rfl <;> first | exact hm _ h1 h2 |  rfl
  · exact absurd rfl c13
theorem rPi.next {P : List Fr} {w : Raw} {s i : Int32} {v : Int64} {l : List Int32} {n : Nat} (h : rPi (P ++ [(s, i, v, l, n)]) w) : rPi (P ++ [(s, i, v, l, n + 1)]) (w.1, w.2.1, w.2.2.1, w.2.2.2.1, w.2.2.2.2.1, w.2.2.2.2.2.1, w.2.2.2.2.2.2.1, fu w.2.2.2.2.2.2.2.1 P.length (nI (n + 1)), w.2.2.2.2.2.2.2.2.1, w.2.2.2.2.2.2.2.2.2) := by
  intro p f hp
  by_cases e : p < P.length
  · rw [List.getElem?_append_left e] at hp
    obtain ⟨g1, g2, g3, g4⟩ := h p f (by rw [List.getElem?_append_left e]; exact hp)
    refine ⟨g1, g2, g3, fun z => ?_⟩
    obtain ⟨k1, k2⟩ := g4 z
    exact ⟨(fu_n (by omega)).trans k1, k2⟩
  · have e2 : p = P.length := by
      have := (List.getElem?_eq_some_iff.mp hp).1
      simp at this
      omega
    subst e2
    simp at hp
    subst hp
    obtain ⟨g1, g2, g3, g4⟩ := h.top
    refine ⟨g1, g2, g3, fun z => ?_⟩
    obtain ⟨k1, k2⟩ := g4 z
    exact ⟨fu_s, k2⟩
theorem d_go0n {F : Nat} {u : Int64} {P : List Fr} {k : Nat} {v : Int64} {l : List Int32} {n : Nat} {x : Int32} {S : St} {h : mm_H} (hl : P.length < 600) (hk : k < 6) (hx : l[n]? = some x) (hxm : rN (sM S) x) (ho : Ok S) (hR : RM S (P ++ [(0, nI k, v, l, n)]) (0, 0, -1, u) h) : mW none (F + 1) mX4_goesOn 0 [(0, .ref 32)] [] h (fun r h' => r = none ∧ RM S (P ++ [(0, nI k, v, l, n + 1)]) (if x ∈ sL S k then Xb (sH S x.toNatClampNeg) v u else (0, 0, -1, u)) h' ∧ fr AM h h') := by
  have hM40 := ho.1
  obtain ⟨w, hm0, r1, r2, r3, r4⟩ := hR
  have hm : hM S (P.length + 1) (0, 0, -1, u) w h := by rw [List.length_append] at hm0; exact hm0
  obtain ⟨p1, p2, p3, p4⟩ := r4.top
  obtain ⟨q1, q2, q3, q4⟩ := p4 rfl
  have r5 := r4.next
  have hnl : n < l.length := (List.getElem?_eq_some_iff.mp hx).1
  have q5 := q4 n x hx
  have q3' : l.length ≤ 12 := q3
  refine w_aload_n (q := 1) aX4_goesOn_0 rfl rfl ?_
  refine w_get (q := 4) aX4_goesOn_1 f_4_120 (hm 32 (by decide) (by decide)) rfl rfl ?_
  refine w_iconst (v := 1) (q := 5) aX4_goesOn_4 rfl rfl ?_
  refine w_isub (q := 6) aX4_goesOn_5 rfl ?_
  rw [nI_pred]
  refine w_istore_n (q := 7) (ls' := [(1, _), (0, _)]) aX4_goesOn_6 (by decide) rfl rfl ?_
  refine w_aload_n (q := 8) aX4_goesOn_7 rfl rfl ?_
  refine w_get (q := 11) aX4_goesOn_8 f_4_56 (hm 32 (by decide) (by decide)) rfl rfl ?_
  refine w_iload_n (q := 12) aX4_goesOn_11 rfl rfl ?_
  refine w_iald (q := 13) aX4_goesOn_12 (by decide) (hm 48 (by decide) (by decide)) (mm_ix_at (n := P.length) rfl (by omega) (rg_at (by omega))) rfl ?_
  rw [p1]
  refine w_if_eq (t := 53) (q := 16) aX4_goesOn_13 (by decide) rfl (fun c13 => ?_) (fun c13 => ?_)
  · refine w_aload_n (q := 54) aX4_goesOn_53 rfl rfl ?_
    refine w_get (q := 57) aX4_goesOn_54 f_4_65 (hm 32 (by decide) (by decide)) rfl rfl ?_
    refine w_iload_n (q := 58) aX4_goesOn_57 rfl rfl ?_
    refine w_iald (q := 59) aX4_goesOn_58 (by decide) (hm 51 (by decide) (by decide)) (mm_ix_at (n := P.length) rfl (by omega) (rg_at (by omega))) rfl ?_
    rw [q1]
    refine w_aload_n (q := 60) aX4_goesOn_59 rfl rfl ?_
    refine w_get (q := 63) aX4_goesOn_60 f_4_68 (hm 32 (by decide) (by decide)) rfl rfl ?_
    refine w_iload_n (q := 64) aX4_goesOn_63 rfl rfl ?_
    refine w_iald (q := 65) aX4_goesOn_64 (by decide) (hm 52 (by decide) (by decide)) (mm_ix_at (n := P.length) rfl (by omega) (rg_at (by omega))) rfl ?_
    rw [q2]
    refine w_ic_ne (t := 89) (q := 68) aX4_goesOn_65 (by decide) rfl (fun c65 => ?_) (fun c65 => ?_)
    · refine w_aload_n (q := 90) aX4_goesOn_89 rfl rfl ?_
      refine w_get (q := 93) aX4_goesOn_90 f_4_71 (hm 32 (by decide) (by decide)) rfl rfl ?_
      refine w_bipush (v := 12) (q := 95) aX4_goesOn_93 rfl rfl ?_
      refine w_iload_n (q := 96) aX4_goesOn_95 rfl rfl ?_
      refine w_imul (q := 97) aX4_goesOn_96 rfl ?_
      refine w_aload_n (q := 98) aX4_goesOn_97 rfl rfl ?_
      refine w_get (q := 101) aX4_goesOn_98 f_4_65 (hm 32 (by decide) (by decide)) rfl rfl ?_
      refine w_iload_n (q := 102) aX4_goesOn_101 rfl rfl ?_
      refine w_iald (q := 103) aX4_goesOn_102 (by decide) (hm 51 (by decide) (by decide)) (mm_ix_at (n := P.length) rfl (by omega) (rg_at (by omega))) rfl ?_
      rw [q1]
      refine w_iadd (q := 104) aX4_goesOn_103 rfl ?_
      rw [m12]
      refine w_iald (q := 105) aX4_goesOn_104 (by decide) (hm 53 (by decide) (by decide)) (mm_ix_at (n := 12 * P.length + n) rfl (by omega) (rg_at (by omega))) rfl ?_
      rw [q5]
      refine w_istore_n (q := 106) (ls' := [(2, _), (1, _), (0, _)]) aX4_goesOn_105 (by decide) rfl rfl ?_
      refine w_aload_n (q := 107) aX4_goesOn_106 rfl rfl ?_
      refine w_get (q := 110) aX4_goesOn_107 f_4_65 (hm 32 (by decide) (by decide)) rfl rfl ?_
      refine w_iload_n (q := 111) aX4_goesOn_110 rfl rfl ?_
      refine w_dup2 (q := 112) aX4_goesOn_111 ⟨rfl, rfl⟩ rfl ?_
      refine w_iald (q := 113) aX4_goesOn_112 (by decide) (hm 51 (by decide) (by decide)) (mm_ix_at (n := P.length) rfl (by omega) (rg_at (by omega))) rfl ?_
      rw [q1]
      refine w_iconst (v := 1) (q := 114) aX4_goesOn_113 rfl rfl ?_
      refine w_iadd (q := 115) aX4_goesOn_114 rfl ?_
      rw [nI_1]
      refine w_iast (q := 116) (n := P.length) (vs' := _) aX4_goesOn_115 (hm 51 (by decide) (by decide)) (rfl) (by rw [rg_len]; omega) (by rw [rg_len]; omega) (rg_set _ _ _ _) rfl ?_
      have e51 : fu (fun j => Value.int (w.2.2.2.2.2.2.2.1 j)) P.length (.int (nI (n + 1))) = fun j => Value.int (fu w.2.2.2.2.2.2.2.1 P.length (nI (n + 1)) j) := fu_map Value.int _ _ _
      have hm2 : hM S (P.length + 1) (0, 0, -1, u) (w.1, w.2.1, w.2.2.1, w.2.2.2.1, w.2.2.2.2.1, w.2.2.2.2.2.1, w.2.2.2.2.2.2.1, fu w.2.2.2.2.2.2.2.1 P.length (nI (n + 1)), w.2.2.2.2.2.2.2.2.1, w.2.2.2.2.2.2.2.2.2) (mm_up h 51 (5, rg 600 (fu (fun j => Value.int (w.2.2.2.2.2.2.2.1 j)) P.length (.int (nI (n + 1)))))) := by
        intro q h1 h2
        rcases q23 q h1 h2 with rfl | rfl | rfl | rfl | rfl | rfl | rfl | rfl | rfl | rfl | rfl | rfl | rfl | rfl | rfl | rfl | rfl | rfl | rfl | rfl | rfl | rfl | rfl <;> first | exact hm _ h1 h2 | exact congrArg (fun z => some ((5 : Nat), rg 600 z)) e51 |  rfl
      have hR2 : RM S (P ++ [(0, nI k, v, l, n + 1)]) (0, 0, -1, u) (mm_up h 51 (5, rg 600 (fu (fun j => Value.int (w.2.2.2.2.2.2.2.1 j)) P.length (.int (nI (n + 1)))))) := ⟨(w.1, w.2.1, w.2.2.1, w.2.2.2.1, w.2.2.2.2.1, w.2.2.2.2.2.1, w.2.2.2.2.2.2.1, fu w.2.2.2.2.2.2.2.1 P.length (nI (n + 1)), w.2.2.2.2.2.2.2.2.1, w.2.2.2.2.2.2.2.2.2), by rw [List.length_append]; exact hm2, r1, r2, r3, r5⟩
      have hf2 : fr AM h (mm_up h 51 (5, rg 600 (fu (fun j => Value.int (w.2.2.2.2.2.2.2.1 j)) P.length (.int (nI (n + 1)))))) := fr.rf.up (AM_l (by omega))
      generalize mm_up h 51 (5, rg 600 (fu (fun j => Value.int (w.2.2.2.2.2.2.2.1 j)) P.length (.int (nI (n + 1))))) = h2 at hm2 hR2 hf2
      refine w_aload_n (q := 117) aX4_goesOn_116 rfl rfl ?_
      refine w_iload_n (q := 118) aX4_goesOn_117 rfl rfl ?_
      refine w_aload_n (q := 119) aX4_goesOn_118 rfl rfl ?_
      refine w_get (q := 122) aX4_goesOn_119 f_4_59 (hm2 32 (by decide) (by decide)) rfl rfl ?_
      refine w_iload_n (q := 123) aX4_goesOn_122 rfl rfl ?_
      refine w_iald (q := 124) aX4_goesOn_123 (by decide) (hm2 49 (by decide) (by decide)) (mm_ix_at (n := P.length) rfl (by omega) (rg_at (by omega))) rfl ?_
      rw [p2]
      refine w_callV aX4_goesOn_124 t_4_109 (this_at rfl (hm2 32 (by decide) (by decide))) (rfl) (d_placeOf hk hm2 r1) (fun r124 h124 hp => ?_)
      obtain ⟨rfl, rfl⟩ := hp
      refine w_iconst (v := -1) (q := 128) aX4_goesOn_127 rfl rfl ?_
      refine w_ic_eq (t := 147) (q := 131) aX4_goesOn_128 (by decide) rfl (fun c128 => ?_) (fun c128 => ?_)
      · refine w_vret aX4_goesOn_147 rfl ?_
        have := (pls_m1 (by have := (r1 k hk).1; omega)).mp c128
        rw [if_neg this]
        exact ⟨rfl, hR2, hf2⟩
      · have hin : x ∈ sL S k := Classical.byContradiction fun z => c128 (pls_no z)
        rw [if_pos hin]
        obtain ⟨j, hj, rfl⟩ := rN_of (by omega) hxm
        rw [nI_clamp (by omega)]
        refine w_aload_n (q := 132) aX4_goesOn_131 rfl rfl ?_
        refine w_aload_n (q := 133) aX4_goesOn_132 rfl rfl ?_
        refine w_get (q := 136) aX4_goesOn_133 f_4_47 (hm2 32 (by decide) (by decide)) rfl rfl ?_
        refine w_iload_n (q := 137) aX4_goesOn_136 rfl rfl ?_
        refine w_iald (q := 138) aX4_goesOn_137 (by decide) (hm2 45 (by decide) (by decide)) (mm_ix_at (n := j) rfl (by omega) (rg_at (by omega))) rfl ?_
        rw [if_pos hj]
        refine w_aload_n (q := 139) aX4_goesOn_138 rfl rfl ?_
        refine w_get (q := 142) aX4_goesOn_139 f_4_62 (hm2 32 (by decide) (by decide)) rfl rfl ?_
        refine w_iload_n (q := 143) aX4_goesOn_142 rfl rfl ?_
        refine w_lald (q := 144) aX4_goesOn_143 (hm2 50 (by decide) (by decide)) (mm_ix_at (n := P.length) rfl (by omega) (rg_at (by omega))) rfl ?_
        rw [p3]
        refine w_callV aX4_goesOn_144 t_4_157 (this_at rfl (hm2 32 (by decide) (by decide))) (rfl) (d_begins (fun q hq => by have := ho.2.1 j q hq; omega) hR2) (fun r144 h144 hp => ?_)
        obtain ⟨rfl, hR3, hf3⟩ := hp
        refine w_vret aX4_goesOn_147 rfl ?_
        exact ⟨rfl, hR3, hf2.tr hf3⟩
    · exact absurd ((nI_iff (a := n) (b := l.length) (by omega) (by omega)).mp c65) (by omega)
  · exact absurd rfl c13
