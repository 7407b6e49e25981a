theorem c_isTally {F : Nat} {h : mm_H} {v : Int64} : mW none F mX3_isTally 0 [(0, .long v)] [] h (fun r h' => r = some (.int (bz (rL v))) ∧ h = h') := by
  refine w_lload_n (q := 1) aX3_isTally_0 rfl rfl ?_
  refine w_lconst (v := 0) (q := 2) aX3_isTally_1 rfl rfl ?_
  refine w_lcmp (q := 3) aX3_isTally_2 rfl ?_
  refine w_if_lt (t := 18) (q := 6) aX3_isTally_3 (by decide) rfl (fun c3 => ?_) (fun c3 => ?_)
  · refine w_iconst (v := 0) (q := 19) aX3_isTally_18 rfl rfl ?_
    refine w_zret aX3_isTally_19 rfl (Or.inl rfl) ?_
    exact ⟨by rw [bz_0 (fun z => z.1 ((lg_cmp_lt _ _).mp c3))], rfl⟩
  · refine w_lload_n (q := 7) aX3_isTally_6 rfl rfl ?_
    refine w_ldc (q := 10) aX3_isTally_7 l_3_130 rfl ?_
    refine w_lcmp (q := 11) aX3_isTally_10 rfl ?_
    refine w_if_ge (t := 18) (q := 14) aX3_isTally_11 (by decide) rfl (fun c11 => ?_) (fun c11 => ?_)
    · refine w_iconst (v := 0) (q := 19) aX3_isTally_18 rfl rfl ?_
      refine w_zret aX3_isTally_19 rfl (Or.inl rfl) ?_
      exact ⟨by rw [bz_0 (fun z => Int64.not_lt.mpr ((lg_cmp_ge _ _).mp c11) z.2)], rfl⟩
    · refine w_iconst (v := 1) (q := 15) aX3_isTally_14 rfl rfl ?_
      refine w_goto (t := 19) aX3_isTally_15 (by decide) ?_
      refine w_zret aX3_isTally_19 rfl (Or.inr rfl) ?_
      exact ⟨by rw [bz_1 ⟨fun z => c3 ((lg_cmp_lt _ _).mpr z), Int64.not_le.mp (fun z => c11 ((lg_cmp_ge _ _).mpr z))⟩], rfl⟩
theorem c_isBell {F : Nat} {h : mm_H} {x : Int32} : mW none F mX3_isBell 0 [(0, .int x)] [] h (fun r h' => r = some (.int (bz (rN 6 x))) ∧ h = h') := by
  refine w_iload_n (q := 1) aX3_isBell_0 rfl rfl ?_
  refine w_if_lt (t := 14) (q := 4) aX3_isBell_1 (by decide) rfl (fun c1 => ?_) (fun c1 => ?_)
  · refine w_iconst (v := 0) (q := 15) aX3_isBell_14 rfl rfl ?_
    refine w_zret aX3_isBell_15 rfl (Or.inl rfl) ?_
    exact ⟨by rw [bz_0 (fun z => z.1 c1)], rfl⟩
  · refine w_iload_n (q := 5) aX3_isBell_4 rfl rfl ?_
    refine w_bipush (v := 6) (q := 7) aX3_isBell_5 rfl rfl ?_
    refine w_ic_ge (t := 14) (q := 10) aX3_isBell_7 (by decide) rfl (fun c7 => ?_) (fun c7 => ?_)
    · refine w_iconst (v := 0) (q := 15) aX3_isBell_14 rfl rfl ?_
      refine w_zret aX3_isBell_15 rfl (Or.inl rfl) ?_
      exact ⟨by rw [bz_0 (fun z => k2_nlt c7 z.2)], rfl⟩
    · refine w_iconst (v := 1) (q := 11) aX3_isBell_10 rfl rfl ?_
      refine w_goto (t := 15) aX3_isBell_11 (by decide) ?_
      refine w_zret aX3_isBell_15 rfl (Or.inr rfl) ?_
      exact ⟨by rw [bz_1 ⟨c1, k2_lt c7⟩], rfl⟩
theorem c_isHearer {F : Nat} {h : mm_H} {S : St} {x : Int32} (hR : RC S h) : mW none F mX3_isHearer 0 [(0, .ref 1), (1, .int x)] [] h (fun r h' => r = some (.int (bz (rN (sM S) x))) ∧ h = h') := by
  refine w_iload_n (q := 1) aX3_isHearer_0 rfl rfl ?_
  refine w_if_lt (t := 16) (q := 4) aX3_isHearer_1 (by decide) rfl (fun c1 => ?_) (fun c1 => ?_)
  · refine w_iconst (v := 0) (q := 17) aX3_isHearer_16 rfl rfl ?_
    refine w_zret aX3_isHearer_17 rfl (Or.inl rfl) ?_
    exact ⟨by rw [bz_0 (fun z => z.1 c1)], rfl⟩
  · refine w_iload_n (q := 5) aX3_isHearer_4 rfl rfl ?_
    refine w_aload_n (q := 6) aX3_isHearer_5 rfl rfl ?_
    refine w_get (q := 9) aX3_isHearer_6 f_3_61 (hR.ho) rfl rfl ?_
    refine w_ic_ge (t := 16) (q := 12) aX3_isHearer_9 (by decide) rfl (fun c9 => ?_) (fun c9 => ?_)
    · refine w_iconst (v := 0) (q := 17) aX3_isHearer_16 rfl rfl ?_
      refine w_zret aX3_isHearer_17 rfl (Or.inl rfl) ?_
      exact ⟨by rw [bz_0 (fun z => k2_nlt c9 z.2)], rfl⟩
    · refine w_iconst (v := 1) (q := 13) aX3_isHearer_12 rfl rfl ?_
      refine w_goto (t := 17) aX3_isHearer_13 (by decide) ?_
      refine w_zret aX3_isHearer_17 rfl (Or.inr rfl) ?_
      exact ⟨by rw [bz_1 ⟨c1, k2_lt c9⟩], rfl⟩
abbrev m_met (e : Int32) : Prop := e = 1 ∨ e = 2 ∨ e = 3 ∨ e = 4
theorem c_canBeMet {F : Nat} {h : mm_H} {x : Int32} : mW none F mX3_canBeMet 0 [(0, .int x)] [] h (fun r h' => r = some (.int (bz (m_met x))) ∧ h = h') := by
  refine w_iload_n (q := 1) aX3_canBeMet_0 rfl rfl ?_
  refine w_iconst (v := 1) (q := 2) aX3_canBeMet_1 rfl rfl ?_
  refine w_ic_eq (t := 20) (q := 5) aX3_canBeMet_2 (by decide) rfl (fun c2 => ?_) (fun c2 => ?_)
  · refine w_iconst (v := 1) (q := 21) aX3_canBeMet_20 rfl rfl ?_
    refine w_goto (t := 25) aX3_canBeMet_21 (by decide) ?_
    refine w_zret aX3_canBeMet_25 rfl (Or.inr rfl) ?_
    exact ⟨by rw [bz_1 (Or.inl c2)], rfl⟩
  · refine w_iload_n (q := 6) aX3_canBeMet_5 rfl rfl ?_
    refine w_iconst (v := 2) (q := 7) aX3_canBeMet_6 rfl rfl ?_
    refine w_ic_eq (t := 20) (q := 10) aX3_canBeMet_7 (by decide) rfl (fun c7 => ?_) (fun c7 => ?_)
    · refine w_iconst (v := 1) (q := 21) aX3_canBeMet_20 rfl rfl ?_
      refine w_goto (t := 25) aX3_canBeMet_21 (by decide) ?_
      refine w_zret aX3_canBeMet_25 rfl (Or.inr rfl) ?_
      exact ⟨by rw [bz_1 (Or.inr (Or.inl c7))], rfl⟩
    · refine w_iload_n (q := 11) aX3_canBeMet_10 rfl rfl ?_
      refine w_iconst (v := 3) (q := 12) aX3_canBeMet_11 rfl rfl ?_
      refine w_ic_eq (t := 20) (q := 15) aX3_canBeMet_12 (by decide) rfl (fun c12 => ?_) (fun c12 => ?_)
      · refine w_iconst (v := 1) (q := 21) aX3_canBeMet_20 rfl rfl ?_
        refine w_goto (t := 25) aX3_canBeMet_21 (by decide) ?_
        refine w_zret aX3_canBeMet_25 rfl (Or.inr rfl) ?_
        exact ⟨by rw [bz_1 (Or.inr (Or.inr (Or.inl c12)))], rfl⟩
      · refine w_iload_n (q := 16) aX3_canBeMet_15 rfl rfl ?_
        refine w_iconst (v := 4) (q := 17) aX3_canBeMet_16 rfl rfl ?_
        refine w_ic_ne (t := 24) (q := 20) aX3_canBeMet_17 (by decide) rfl (fun c17 => ?_) (fun c17 => ?_)
        · refine w_iconst (v := 0) (q := 25) aX3_canBeMet_24 rfl rfl ?_
          refine w_zret aX3_canBeMet_25 rfl (Or.inl rfl) ?_
          exact ⟨by rw [bz_0 (fun z => by rcases z with z | z | z | z <;> contradiction)], rfl⟩
        · refine w_iconst (v := 1) (q := 21) aX3_canBeMet_20 rfl rfl ?_
          refine w_goto (t := 25) aX3_canBeMet_21 (by decide) ?_
          refine w_zret aX3_canBeMet_25 rfl (Or.inr rfl) ?_
          exact ⟨by rw [bz_1 (Or.inr (Or.inr (Or.inr c17)))], rfl⟩
theorem c_wellIfStopped {F : Nat} {h : mm_H} {x : Int32} : mW none F mX3_wellIfStopped 0 [(0, .int x)] [] h (fun r h' => r = some (.int (if x = 7 then 0 else x)) ∧ h = h') := by
  refine w_iload_n (q := 1) aX3_wellIfStopped_0 rfl rfl ?_
  refine w_bipush (v := 7) (q := 3) aX3_wellIfStopped_1 rfl rfl ?_
  refine w_ic_ne (t := 10) (q := 6) aX3_wellIfStopped_3 (by decide) rfl (fun c3 => ?_) (fun c3 => ?_)
  · refine w_iload_n (q := 11) aX3_wellIfStopped_10 rfl rfl ?_
    refine w_iret aX3_wellIfStopped_11 rfl ?_
    exact ⟨by rw [if_neg c3], rfl⟩
  · refine w_iconst (v := 0) (q := 7) aX3_wellIfStopped_6 rfl rfl ?_
    refine w_goto (t := 11) aX3_wellIfStopped_7 (by decide) ?_
    refine w_iret aX3_wellIfStopped_11 rfl ?_
    exact ⟨by rw [if_pos c3], rfl⟩
theorem AR_lit {a : Nat} (h : 1 ≤ a ∧ a < 32 ∧ ¬ (10 ≤ a ∧ a < 18)) : AR a := ⟨Or.inl ⟨h.1, h.2.1⟩, h.2.2⟩
theorem c_tally {F : Nat} {h : mm_H} {S : St} {k : Int32} {v : Int64} (hR : RC S h) : mW none (F + 1) mX3_tally 0 [(0, .ref 1), (1, .int k), (2, .long v)] [] h (cP (p_tally S k v) h) := by
  refine w_iload_n (q := 1) aX3_tally_0 rfl rfl ?_
  refine w_i2l (q := 2) aX3_tally_1 rfl ?_
  refine w_callS aX3_tally_2 x_3_45 t_3_45 (rfl) (c_isTally) (fun r2 h2 hp => ?_)
  obtain ⟨rfl, rfl⟩ := hp
  refine w_if_ne (t := 11) (q := 8) aX3_tally_5 (by decide) rfl (fun c5 => ?_) (fun c5 => ?_)
  · have hk := (rL_of k).mp (bz_ne0 c5)
    obtain ⟨j, hj, rfl⟩ := rN_of (by omega) hk
    refine w_aload_n (q := 12) aX3_tally_11 rfl rfl ?_
    refine w_get (q := 15) aX3_tally_12 f_3_9 (hR.ho) rfl rfl ?_
    refine w_iload_n (q := 16) aX3_tally_15 rfl rfl ?_
    refine w_lload_n (q := 17) aX3_tally_16 rfl rfl ?_
    refine w_last (q := 18) (n := j) (vs' := _) aX3_tally_17 (hR.ta) (rfl) (by rw [rg_len]; exact hj) (by rw [rg_len]; omega) (rg_set _ _ _ _) rfl ?_
    refine w_iconst (v := 1) (q := 19) aX3_tally_18 rfl rfl ?_
    refine w_iret aX3_tally_19 rfl ?_
    unfold p_tally
    rw [if_pos hk, nI_clamp (by omega)]
    exact ⟨rfl, hR.upTa (by rw [fu_map Value.long]), fr.rf.up (AR_lit (by omega))⟩
  · have hk : ¬ rN 8 k := fun z => bz_eq0 c5 ((rL_of k).mpr z)
    refine w_bipush (v := -2) (q := 10) aX3_tally_8 rfl rfl ?_
    refine w_iret aX3_tally_10 rfl ?_
    unfold p_tally
    rw [if_neg hk]
    exact ⟨rfl, hR, fr.rf⟩
theorem c_get {F : Nat} {h : mm_H} {S : St} {k : Int32} (hR : RC S h) : mW none (F + 1) mX3_get 0 [(0, .ref 1), (1, .int k)] [] h (fun r h' => r = some (.long (p_get S k)) ∧ h = h') := by
  refine w_iload_n (q := 1) aX3_get_0 rfl rfl ?_
  refine w_i2l (q := 2) aX3_get_1 rfl ?_
  refine w_callS aX3_get_2 x_3_45 t_3_45 (rfl) (c_isTally) (fun r2 h2 hp => ?_)
  obtain ⟨rfl, rfl⟩ := hp
  refine w_if_eq (t := 17) (q := 8) aX3_get_5 (by decide) rfl (fun c5 => ?_) (fun c5 => ?_)
  · have hk : ¬ rN 8 k := fun z => bz_eq0 c5 ((rL_of k).mpr z)
    refine w_lconst (v := 0) (q := 18) aX3_get_17 rfl rfl ?_
    refine w_lret aX3_get_18 rfl ?_
    unfold p_get
    rw [if_neg hk]
    exact ⟨rfl, rfl⟩
  · have hk := (rL_of k).mp (bz_ne0 c5)
    obtain ⟨j, hj, rfl⟩ := rN_of (by omega) hk
    refine w_aload_n (q := 9) aX3_get_8 rfl rfl ?_
    refine w_get (q := 12) aX3_get_9 f_3_9 (hR.ho) rfl rfl ?_
    refine w_iload_n (q := 13) aX3_get_12 rfl rfl ?_
    refine w_lald (q := 14) aX3_get_13 (hR.ta) (mm_ix_at (n := j) rfl (by omega) (rg_at hj)) rfl ?_
    refine w_goto (t := 18) aX3_get_14 (by decide) ?_
    refine w_lret aX3_get_18 rfl ?_
    unfold p_get
    rw [if_pos hk, nI_clamp (by omega)]
    exact ⟨rfl, rfl⟩
theorem c_way {F : Nat} {h : mm_H} {S : St} {b w : Int32} (hR : RC S h) : mW none (F + 1) mX3_way 0 [(0, .ref 1), (1, .int b), (2, .int w)] [] h (cP (p_way S b w) h) := by
  have bad : (¬ rN 6 b ∨ (¬ w = 0 ∧ ¬ w = 1)) → mW none (F + 1) mX3_way 16 [(0, .ref 1), (1, .int b), (2, .int w)] [] h (cP (p_way S b w) h) := fun hn => by
    refine w_bipush (v := -2) (q := 18) aX3_way_16 rfl rfl ?_
    refine w_iret aX3_way_18 rfl ?_
    unfold p_way
    rw [if_neg (fun z => hn.elim (fun q => q z.1) (fun q => z.2.elim q.1 q.2))]
    exact ⟨rfl, hR, fr.rf⟩
  have good : rN 6 b → (w = 0 ∨ w = 1) → mW none (F + 1) mX3_way 19 [(0, .ref 1), (1, .int b), (2, .int w)] [] h (cP (p_way S b w) h) := fun hb hw => by
    unfold p_way
    rw [if_pos ⟨hb, hw⟩]
    obtain ⟨j, hj, rfl⟩ := rN_of (by omega) hb
    rw [nI_clamp (by omega)]
    obtain ⟨g, hg⟩ := hR.bel hj
    refine w_aload_n (q := 20) aX3_way_19 rfl rfl ?_
    refine w_get (q := 23) aX3_way_20 f_3_15 (hR.ho) rfl rfl ?_
    refine w_iload_n (q := 24) aX3_way_23 rfl rfl ?_
    refine w_aald (q := 25) aX3_way_24 (hR.be) (by decide) (mm_ix_at (n := j) rfl (by omega) (rg_at hj)) rfl ?_
    refine w_get (q := 28) aX3_way_25 f_3_53 (hg.1) rfl rfl ?_
    refine w_istore_n (q := 29) (ls' := [(3, _), (0, _), (1, _), (2, _)]) aX3_way_28 (by decide) rfl rfl ?_
    refine w_aload_n (q := 30) aX3_way_29 rfl rfl ?_
    refine w_get (q := 33) aX3_way_30 f_3_15 (hR.ho) rfl rfl ?_
    refine w_iload_n (q := 34) aX3_way_33 rfl rfl ?_
    refine w_aald (q := 35) aX3_way_34 (hR.be) (by decide) (mm_ix_at (n := j) rfl (by omega) (rg_at hj)) rfl ?_
    refine w_iload_n (q := 36) aX3_way_35 rfl rfl ?_
    refine w_put (q := 39) (fs' := [_, _, _]) aX3_way_36 f_3_53 (hg.1) (Nat.le_of_ble_eq_true rfl) rfl rfl (Or.inl rfl) rfl rfl ?_
    refine w_iload_n (q := 40) aX3_way_39 rfl rfl ?_
    refine w_iret aX3_way_40 rfl ?_
    have hf : fr (fun q => q = 18 + 2 * j ∨ q = 19 + 2 * j) h (mm_up h (18 + 2 * j) (1, [.ref (19 + 2 * j), .int (nI (sL S j).length), .int w])) := fr.rf.up (Or.inl rfl)
    have hR2 := hR.upBe (l := sL S j) (w := w) hj hf ⟨g, up_s _ _ _, (up_n (by omega)).trans hg.2.1, hg.2.2⟩
    rw [fu_id] at hR2
    exact ⟨rfl, hR2, hf.mono (fun q hq => AR_lit (by omega))⟩
  refine w_iload_n (q := 1) aX3_way_0 rfl rfl ?_
  refine w_callS aX3_way_1 x_3_49 t_3_49 (rfl) (c_isBell) (fun r1 h1 hp => ?_)
  obtain ⟨rfl, rfl⟩ := hp
  refine w_if_eq (t := 16) (q := 7) aX3_way_4 (by decide) rfl (fun c4 => ?_) (fun c4 => ?_)
  · exact bad (Or.inl (bz_eq0 c4))
  · have hb := bz_ne0 c4
    refine w_iload_n (q := 8) aX3_way_7 rfl rfl ?_
    refine w_if_eq (t := 19) (q := 11) aX3_way_8 (by decide) rfl (fun c8 => ?_) (fun c8 => ?_)
    · exact good hb (Or.inl c8)
    · refine w_iload_n (q := 12) aX3_way_11 rfl rfl ?_
      refine w_iconst (v := 1) (q := 13) aX3_way_12 rfl rfl ?_
      refine w_ic_eq (t := 19) (q := 16) aX3_way_13 (by decide) rfl (fun c13 => ?_) (fun c13 => ?_)
      · exact good hb (Or.inr c13)
      · exact bad (Or.inr ⟨c8, c13⟩)
theorem c_line {F : Nat} {h : mm_H} {S : St} {b x : Int32} (hR : RC S h) : mW none (F + 1) mX3_line 0 [(0, .ref 1), (1, .int b), (2, .int x)] [] h (fun r h' => r = some (.int (p_line S b x)) ∧ h = h') := by
  unfold p_line
  refine w_iload_n (q := 1) aX3_line_0 rfl rfl ?_
  refine w_callS aX3_line_1 x_3_49 t_3_49 (rfl) (c_isBell) (fun r1 h1 hp => ?_)
  obtain ⟨rfl, rfl⟩ := hp
  refine w_if_eq (t := 20) (q := 7) aX3_line_4 (by decide) rfl (fun c4 => ?_) (fun c4 => ?_)
  · refine w_bipush (v := -2) (q := 22) aX3_line_20 rfl rfl ?_
    refine w_iret aX3_line_22 rfl ?_
    rw [if_neg (bz_eq0 c4)]
    exact ⟨rfl, rfl⟩
  · have hb := bz_ne0 c4
    rw [if_pos hb]
    obtain ⟨j, hj, rfl⟩ := rN_of (by omega) hb
    rw [nI_clamp (by omega)]
    obtain ⟨g, hg⟩ := hR.bel hj
    refine w_aload_n (q := 8) aX3_line_7 rfl rfl ?_
    refine w_get (q := 11) aX3_line_8 f_3_15 (hR.ho) rfl rfl ?_
    refine w_iload_n (q := 12) aX3_line_11 rfl rfl ?_
    refine w_aald (q := 13) aX3_line_12 (hR.be) (by decide) (mm_ix_at (n := j) rfl (by omega) (rg_at hj)) rfl ?_
    refine w_iload_n (q := 14) aX3_line_13 rfl rfl ?_
    refine w_callV aX3_line_14 t_3_97 (this_at rfl hg.1) (rfl) (c_hearerAt hg) (fun r14 h14 hp => ?_)
    obtain ⟨rfl, rfl⟩ := hp
    refine w_goto (t := 22) aX3_line_17 (by decide) ?_
    refine w_iret aX3_line_22 rfl ?_
    exact ⟨rfl, rfl⟩
theorem c_queued {F : Nat} {h : mm_H} {S : St} {x : Int32} (hR : RC S h) : mW none (F + 1) mX3_queued 0 [(0, .ref 1), (1, .int x)] [] h (fun r h' => r = some (.int (p_queued S x)) ∧ h = h') := by
  have hq := hR.qu
  have h4 : ∃ fs, h.2.2 4 = some (2, fs) := by
    obtain ⟨hd, fb, fv, h4, -⟩ := hq
    exact ⟨_, h4⟩
  obtain ⟨fs, h4⟩ := h4
  refine w_aload_n (q := 1) aX3_queued_0 rfl rfl ?_
  refine w_get (q := 4) aX3_queued_1 f_3_22 (hR.ho) rfl rfl ?_
  refine w_iload_n (q := 5) aX3_queued_4 rfl rfl ?_
  refine w_callV aX3_queued_5 t_3_100 (this_at rfl h4) (rfl) (c_bellAt hq) (fun r5 h5 hp => ?_)
  obtain ⟨rfl, rfl⟩ := hp
  refine w_iret aX3_queued_8 rfl ?_
  exact ⟨rfl, rfl⟩
theorem c_done {F : Nat} {h : mm_H} {S : St} {x : Int32} (hM : sM S ≤ 40) (hR : RC S h) : mW none (F + 1) mX3_done 0 [(0, .ref 1), (1, .int x)] [] h (fun r h' => r = some (.int (p_done S x)) ∧ h = h') := by
  unfold p_done
  refine w_aload_n (q := 1) aX3_done_0 rfl rfl ?_
  refine w_iload_n (q := 2) aX3_done_1 rfl rfl ?_
  refine w_callV aX3_done_2 t_3_64 (this_at rfl hR.ho) (rfl) (c_isHearer hR) (fun r2 h2 hp => ?_)
  obtain ⟨rfl, rfl⟩ := hp
  refine w_if_eq (t := 20) (q := 8) aX3_done_5 (by decide) rfl (fun c5 => ?_) (fun c5 => ?_)
  · refine w_bipush (v := -2) (q := 22) aX3_done_20 rfl rfl ?_
    refine w_iret aX3_done_22 rfl ?_
    rw [if_neg (bz_eq0 c5)]
    exact ⟨rfl, rfl⟩
  · have hb := bz_ne0 c5
    rw [if_pos hb]
    obtain ⟨j, hj, rfl⟩ := rN_of (by omega) hb
    rw [nI_clamp (by omega)]
    refine w_aload_n (q := 9) aX3_done_8 rfl rfl ?_
    refine w_get (q := 12) aX3_done_9 f_3_28 (hR.ho) rfl rfl ?_
    refine w_iload_n (q := 13) aX3_done_12 rfl rfl ?_
    refine w_aald (q := 14) aX3_done_13 (hR.ow) (by decide) (mm_ix_at (n := j) rfl (by omega) (rg_at (by omega))) rfl ?_
    rw [if_pos hj]
    refine w_get (q := 17) aX3_done_14 f_3_127 (hR.ac hj) rfl rfl ?_
    refine w_goto (t := 22) aX3_done_17 (by decide) ?_
    refine w_iret aX3_done_22 rfl ?_
    exact ⟨rfl, rfl⟩
