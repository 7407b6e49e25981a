theorem d_in {F : Nat} {h : mm_H} {v a b : Int64} : mW none F mX4_in 0 [(0, .long v), (2, .long a), (4, .long b)] [] h (fun r h' => r = some (.int (bz (¬ v < a ∧ v ≤ b))) ∧ h = h') := by
  refine w_lload_n (q := 1) aX4_in_0 rfl rfl ?_
  refine w_lload_n (q := 2) aX4_in_1 rfl rfl ?_
  refine w_lcmp (q := 3) aX4_in_2 rfl ?_
  refine w_if_lt (t := 17) (q := 6) aX4_in_3 (by decide) rfl (fun c3 => ?_) (fun c3 => ?_)
  · refine w_iconst (v := 0) (q := 18) aX4_in_17 rfl rfl ?_
    refine w_zret aX4_in_18 rfl (Or.inl rfl) ?_
    exact ⟨by rw [bz_0 (fun z => z.1 ((lg_cmp_lt _ _).mp c3))], rfl⟩
  · refine w_lload_n (q := 7) aX4_in_6 rfl rfl ?_
    refine w_lload (q := 9) aX4_in_7 rfl rfl ?_
    refine w_lcmp (q := 10) aX4_in_9 rfl ?_
    refine w_if_gt (t := 17) (q := 13) aX4_in_10 (by decide) rfl (fun c10 => ?_) (fun c10 => ?_)
    · refine w_iconst (v := 0) (q := 18) aX4_in_17 rfl rfl ?_
      refine w_zret aX4_in_18 rfl (Or.inl rfl) ?_
      exact ⟨by rw [bz_0 (fun z => Int64.not_lt.mpr z.2 ((lg_cmp_gt _ _).mp c10))], rfl⟩
    · refine w_iconst (v := 1) (q := 14) aX4_in_13 rfl rfl ?_
      refine w_goto (t := 18) aX4_in_14 (by decide) ?_
      refine w_zret aX4_in_18 rfl (Or.inr rfl) ?_
      exact ⟨by rw [bz_1 ⟨fun z => c3 ((lg_cmp_lt _ _).mpr z), Int64.not_lt.mp (fun z => c10 ((lg_cmp_gt _ _).mpr z))⟩], rfl⟩
theorem in_rN {x : Int32} {n : Nat} {b : Int64} (hn : n < 2 ^ 31) (hb : b.toInt = (n : Int) - 1) : (¬ x.toInt64 < 0 ∧ x.toInt64 ≤ b) ↔ rN n x := by
  unfold rN
  rw [Int64.lt_iff_toInt_lt, Int64.le_iff_toInt_le, Int32.lt_iff_toInt_lt, Int32.lt_iff_toInt_lt, Int32.toInt_toInt64, nI_toInt hn, hb]
  show (¬ x.toInt < 0 ∧ x.toInt ≤ (n : Int) - 1) ↔ (¬ x.toInt < 0 ∧ x.toInt < (n : Int))
  omega
theorem nIm1 {n : Nat} (hn : n < 2 ^ 31) : (nI n - 1).toInt64.toInt = (n : Int) - 1 := by
  rw [Int32.toInt_toInt64]
  cases n with
  | zero => decide
  | succ n =>
    rw [nI_pred, nI_toInt (by omega)]
    omega
theorem d_isHearer {F : Nat} {h : mm_H} {S : St} {n : Nat} {X : Xs} {w : Raw} {x : Int32} (hS : sM S ≤ 40) (hm : hM S n X w h) : mW none (F + 1) mX4_isHearer 0 [(0, .ref 32), (1, .int x)] [] h (fun r h' => r = some (.int (bz (rN (sM S) x))) ∧ h = h') := by
  refine w_iload_n (q := 1) aX4_isHearer_0 rfl rfl ?_
  refine w_i2l (q := 2) aX4_isHearer_1 rfl ?_
  refine w_lconst (v := 0) (q := 3) aX4_isHearer_2 rfl rfl ?_
  refine w_aload_n (q := 4) aX4_isHearer_3 rfl rfl ?_
  refine w_get (q := 7) aX4_isHearer_4 f_4_81 (hm 32 (by decide) (by decide)) rfl rfl ?_
  refine w_iconst (v := 1) (q := 8) aX4_isHearer_7 rfl rfl ?_
  refine w_isub (q := 9) aX4_isHearer_8 rfl ?_
  refine w_i2l (q := 10) aX4_isHearer_9 rfl ?_
  refine w_callS aX4_isHearer_10 x_4_85 t_4_85 (rfl) (d_in) (fun r10 h10 hp => ?_)
  obtain ⟨rfl, rfl⟩ := hp
  refine w_zret aX4_isHearer_13 rfl (bz_or) ?_
  exact ⟨by rw [bz_iff (in_rN (by omega) (nIm1 (by omega)))], rfl⟩
theorem d_isBell {F : Nat} {h : mm_H} {x : Int32} : mW none (F + 1) mX4_isBell 0 [(0, .int x)] [] h (fun r h' => r = some (.int (bz (rN 6 x))) ∧ h = h') := by
  refine w_iload_n (q := 1) aX4_isBell_0 rfl rfl ?_
  refine w_i2l (q := 2) aX4_isBell_1 rfl ?_
  refine w_lconst (v := 0) (q := 3) aX4_isBell_2 rfl rfl ?_
  refine w_ldc (q := 6) aX4_isBell_3 l_4_89 rfl ?_
  refine w_callS aX4_isBell_6 x_4_85 t_4_85 (rfl) (d_in) (fun r6 h6 hp => ?_)
  obtain ⟨rfl, rfl⟩ := hp
  refine w_zret aX4_isBell_9 rfl (bz_or) ?_
  exact ⟨by rw [bz_iff (in_rN (n := 6) (by omega) (by decide))], rfl⟩
theorem d_isTally {F : Nat} {h : mm_H} {x : Int32} : mW none (F + 1) mX4_isTally 0 [(0, .int x)] [] h (fun r h' => r = some (.int (bz (rN 8 x))) ∧ h = h') := by
  refine w_iload_n (q := 1) aX4_isTally_0 rfl rfl ?_
  refine w_i2l (q := 2) aX4_isTally_1 rfl ?_
  refine w_lconst (v := 0) (q := 3) aX4_isTally_2 rfl rfl ?_
  refine w_ldc (q := 6) aX4_isTally_3 l_4_91 rfl ?_
  refine w_callS aX4_isTally_6 x_4_85 t_4_85 (rfl) (d_in) (fun r6 h6 hp => ?_)
  obtain ⟨rfl, rfl⟩ := hp
  refine w_zret aX4_isTally_9 rfl (bz_or) ?_
  exact ⟨by rw [bz_iff (in_rN (n := 8) (by omega) (by decide))], rfl⟩
theorem d_tally {F : Nat} {h : mm_H} {S : St} {P : List Fr} {X : Xs} {k : Int32} {v : Int64} (hR : RM S P X h) : mW none (F + 2) mX4_tally 0 [(0, .ref 32), (1, .int k), (2, .long v)] [] h (mP (p_tally S k v) P X h) := by
  obtain ⟨w, hm, r1, r2, r3, r4⟩ := hR
  unfold p_tally
  refine w_iload_n (q := 1) aX4_tally_0 rfl rfl ?_
  refine w_callS aX4_tally_1 x_4_93 t_4_93 (rfl) (d_isTally) (fun r1 h1 hp => ?_)
  obtain ⟨rfl, rfl⟩ := hp
  refine w_if_ne (t := 10) (q := 7) aX4_tally_4 (by decide) rfl (fun c4 => ?_) (fun c4 => ?_)
  · have hk := bz_ne0 c4
    rw [if_pos hk]
    obtain ⟨j, hj, rfl⟩ := rN_of (by omega) hk
    rw [nI_clamp (by omega)]
    refine w_aload_n (q := 11) aX4_tally_10 rfl rfl ?_
    refine w_get (q := 14) aX4_tally_11 f_4_7 (hm 32 (by decide) (by decide)) rfl rfl ?_
    refine w_iload_n (q := 15) aX4_tally_14 rfl rfl ?_
    refine w_lload_n (q := 16) aX4_tally_15 rfl rfl ?_
    refine w_last (q := 17) (n := j) (vs' := _) aX4_tally_16 (hm 33 (by decide) (by decide)) (rfl) (by rw [rg_len]; exact hj) (by rw [rg_len]; omega) (rg_set _ _ _ _) rfl ?_
    refine w_iconst (v := 1) (q := 18) aX4_tally_17 rfl rfl ?_
    refine w_iret aX4_tally_18 rfl ?_
    refine ⟨rfl, ⟨w, hm.up (by rw [fu_map Value.long]; rfl) (fun q h1 h2 h3 => ?_), r1, r2, r3, r4⟩, fr.rf.up (AM_l (by omega))⟩
    rcases q23 q h1 h2 with rfl | rfl | rfl | rfl | rfl | rfl | rfl | rfl | rfl | rfl | rfl | rfl | rfl | rfl | rfl | rfl | rfl | rfl | rfl | rfl | rfl | rfl | rfl <;> first | rfl | exact absurd rfl h3
  · rw [if_neg (bz_eq0 c4)]
    refine w_bipush (v := -2) (q := 9) aX4_tally_7 rfl rfl ?_
    refine w_iret aX4_tally_9 rfl ?_
    exact ⟨rfl, ⟨w, hm, r1, r2, r3, r4⟩, fr.rf⟩
theorem d_get {F : Nat} {h : mm_H} {S : St} {P : List Fr} {X : Xs} {k : Int32} (hR : RM S P X h) : mW none (F + 2) mX4_get 0 [(0, .ref 32), (1, .int k)] [] h (fun r h' => r = some (.long (p_get S k)) ∧ h = h') := by
  obtain ⟨w, hm, r1, r2, r3, r4⟩ := hR
  unfold p_get
  refine w_iload_n (q := 1) aX4_get_0 rfl rfl ?_
  refine w_callS aX4_get_1 x_4_93 t_4_93 (rfl) (d_isTally) (fun r1 h1 hp => ?_)
  obtain ⟨rfl, rfl⟩ := hp
  refine w_if_eq (t := 16) (q := 7) aX4_get_4 (by decide) rfl (fun c4 => ?_) (fun c4 => ?_)
  · rw [if_neg (bz_eq0 c4)]
    refine w_lconst (v := 0) (q := 17) aX4_get_16 rfl rfl ?_
    refine w_lret aX4_get_17 rfl ?_
    exact ⟨rfl, rfl⟩
  · have hk := bz_ne0 c4
    rw [if_pos hk]
    obtain ⟨j, hj, rfl⟩ := rN_of (by omega) hk
    rw [nI_clamp (by omega)]
    refine w_aload_n (q := 8) aX4_get_7 rfl rfl ?_
    refine w_get (q := 11) aX4_get_8 f_4_7 (hm 32 (by decide) (by decide)) rfl rfl ?_
    refine w_iload_n (q := 12) aX4_get_11 rfl rfl ?_
    refine w_lald (q := 13) aX4_get_12 (hm 33 (by decide) (by decide)) (mm_ix_at (n := j) rfl (by omega) (rg_at hj)) rfl ?_
    refine w_goto (t := 17) aX4_get_13 (by decide) ?_
    refine w_lret aX4_get_17 rfl ?_
    exact ⟨rfl, rfl⟩
