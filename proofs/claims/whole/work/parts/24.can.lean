theorem rN_out {n : Nat} {x : Int32} {hi : Int} (h : ¬ rN (n + 1) x) (hn : n + 1 < 2 ^ 31 := by decide) (he : hi = (n : Int) := by rfl) : x.toInt < 0 ∨ hi < x.toInt := by
  by_cases h0 : x < 0
  · exact Or.inl (by rw [Int32.lt_iff_toInt_lt] at h0; exact h0)
  · refine Or.inr ?_
    have h1 : ¬ x < nI (n + 1) := fun z => h ⟨h0, z⟩
    rw [Int32.lt_iff_toInt_lt, nI_toInt hn] at h1
    omega
theorem c_count {F : Nat} {h : mm_H} {S : St} {x : Int32} (hR : RC S h) : mW none F mX3_count 0 [(0, .ref 1), (1, .int x)] [] h (fun r h' => r = some (.int (p_count S x)) ∧ h = h') := by
  unfold p_count
  refine w_iload_n (q := 1) aX3_count_0 rfl rfl ?_
  by_cases hx : rN 10 x
  · rw [if_pos hx]
    obtain ⟨j, hj, rfl⟩ := rN_of (by omega) hx
    have hcs : j = 0 ∨ j = 1 ∨ j = 2 ∨ j = 3 ∨ j = 4 ∨ j = 5 ∨ j = 6 ∨ j = 7 ∨ j = 8 ∨ j = 9 := by omega
    rcases hcs with rfl | rfl | rfl | rfl | rfl | rfl | rfl | rfl | rfl | rfl
    · refine w_table (t := 56) (o := 55) aX3_count_1 (by skip; decide) (by skip; decide) (by skip; rfl) (by decide) ?_
      refine w_aload_n (q := 57) aX3_count_56 rfl rfl ?_
      refine w_get (q := 60) aX3_count_57 f_3_61 (hR.ho) rfl rfl ?_
      refine w_iret aX3_count_60 rfl ?_
      exact ⟨rfl, rfl⟩
    · refine w_table (t := 61) (o := 60) aX3_count_1 (by skip; decide) (by skip; decide) (by skip; rfl) (by decide) ?_
      refine w_aload_n (q := 62) aX3_count_61 rfl rfl ?_
      refine w_get (q := 65) aX3_count_62 f_3_103 (hR.ho) rfl rfl ?_
      refine w_iret aX3_count_65 rfl ?_
      exact ⟨rfl, rfl⟩
    · refine w_table (t := 66) (o := 65) aX3_count_1 (by skip; decide) (by skip; decide) (by skip; rfl) (by decide) ?_
      refine w_aload_n (q := 67) aX3_count_66 rfl rfl ?_
      refine w_get (q := 70) aX3_count_67 f_3_106 (hR.ho) rfl rfl ?_
      refine w_iret aX3_count_70 rfl ?_
      exact ⟨rfl, rfl⟩
    · refine w_table (t := 71) (o := 70) aX3_count_1 (by skip; decide) (by skip; decide) (by skip; rfl) (by decide) ?_
      refine w_aload_n (q := 72) aX3_count_71 rfl rfl ?_
      refine w_get (q := 75) aX3_count_72 f_3_109 (hR.ho) rfl rfl ?_
      refine w_iret aX3_count_75 rfl ?_
      exact ⟨rfl, rfl⟩
    · refine w_table (t := 76) (o := 75) aX3_count_1 (by skip; decide) (by skip; decide) (by skip; rfl) (by decide) ?_
      refine w_aload_n (q := 77) aX3_count_76 rfl rfl ?_
      refine w_get (q := 80) aX3_count_77 f_3_112 (hR.ho) rfl rfl ?_
      refine w_iret aX3_count_80 rfl ?_
      exact ⟨rfl, rfl⟩
    · refine w_table (t := 81) (o := 80) aX3_count_1 (by skip; decide) (by skip; decide) (by skip; rfl) (by decide) ?_
      refine w_aload_n (q := 82) aX3_count_81 rfl rfl ?_
      refine w_get (q := 85) aX3_count_82 f_3_115 (hR.ho) rfl rfl ?_
      refine w_iret aX3_count_85 rfl ?_
      exact ⟨rfl, rfl⟩
    · refine w_table (t := 86) (o := 85) aX3_count_1 (by skip; decide) (by skip; decide) (by skip; rfl) (by decide) ?_
      refine w_aload_n (q := 87) aX3_count_86 rfl rfl ?_
      refine w_get (q := 90) aX3_count_87 f_3_118 (hR.ho) rfl rfl ?_
      refine w_iret aX3_count_90 rfl ?_
      exact ⟨rfl, rfl⟩
    · refine w_table (t := 91) (o := 90) aX3_count_1 (by skip; decide) (by skip; decide) (by skip; rfl) (by decide) ?_
      obtain ⟨hd, fb, fv, h4, -⟩ := hR.qu
      refine w_aload_n (q := 92) aX3_count_91 rfl rfl ?_
      refine w_get (q := 95) aX3_count_92 f_3_22 (hR.ho) rfl rfl ?_
      refine w_get (q := 98) aX3_count_95 f_3_121 (h4) rfl rfl ?_
      refine w_iret aX3_count_98 rfl ?_
      exact ⟨rfl, rfl⟩
    · refine w_table (t := 99) (o := 98) aX3_count_1 (by skip; decide) (by skip; decide) (by skip; rfl) (by decide) ?_
      refine w_aload_n (q := 100) aX3_count_99 rfl rfl ?_
      refine w_get (q := 103) aX3_count_100 f_3_124 (hR.ho) rfl rfl ?_
      refine w_iret aX3_count_103 rfl ?_
      exact ⟨rfl, rfl⟩
    · refine w_table (t := 104) (o := 103) aX3_count_1 (by skip; decide) (by skip; decide) (by skip; rfl) (by decide) ?_
      refine w_aload_n (q := 105) aX3_count_104 rfl rfl ?_
      refine w_get (q := 108) aX3_count_105 f_3_74 (hR.ho) rfl rfl ?_
      refine w_iret aX3_count_108 rfl ?_
      exact ⟨rfl, rfl⟩
  · rw [if_neg hx]
    refine w_tableD (t := 109) aX3_count_1 (rN_out hx) (by decide) ?_
    refine w_bipush (v := -2) (q := 111) aX3_count_109 rfl rfl ?_
    refine w_iret aX3_count_111 rfl ?_
    exact ⟨rfl, rfl⟩
theorem bz_iff {p q : Prop} [Decidable p] [Decidable q] (e : p ↔ q) : bz p = bz q := by
  by_cases h : p
  · rw [bz_1 h, bz_1 (e.mp h)]
  · rw [bz_0 h, bz_0 (fun z => h (e.mpr z))]
/-- what hearers can be made -/
abbrev p_can (m : Nat) (s a b : Int32) : Prop := (rN 4 s ∧ rN 8 a) ∨ s = 4 ∨ s = 7 ∨ ((s = 5 ∨ s = 6) ∧ rN 6 a) ∨ ((s = 8 ∨ s = 9 ∨ s = 13) ∧ rN m a) ∨ ((s = 10 ∨ s = 12) ∧ rN m a ∧ rN 8 b) ∨ (s = 11 ∧ rN m a ∧ rN m b) ∨ (s = 14 ∧ rN m a ∧ rN 6 b)
theorem can_0 {m : Nat} {a b : Int32} : (rN 8 a) ↔ p_can m (nI 0) a b := by
  unfold p_can
  simp only [eq_true (show rN 4 (nI 0) by decide), eq_false (show ¬ (nI 0 = 4) by decide), eq_false (show ¬ (nI 0 = 7) by decide), eq_false (show ¬ (nI 0 = 5) by decide), eq_false (show ¬ (nI 0 = 6) by decide), eq_false (show ¬ (nI 0 = 8) by decide), eq_false (show ¬ (nI 0 = 9) by decide), eq_false (show ¬ (nI 0 = 13) by decide), eq_false (show ¬ (nI 0 = 10) by decide), eq_false (show ¬ (nI 0 = 12) by decide), eq_false (show ¬ (nI 0 = 11) by decide), eq_false (show ¬ (nI 0 = 14) by decide), true_and, false_and, false_or, or_false, true_or, or_true]
theorem can_1 {m : Nat} {a b : Int32} : (rN 8 a) ↔ p_can m (nI 1) a b := by
  unfold p_can
  simp only [eq_true (show rN 4 (nI 1) by decide), eq_false (show ¬ (nI 1 = 4) by decide), eq_false (show ¬ (nI 1 = 7) by decide), eq_false (show ¬ (nI 1 = 5) by decide), eq_false (show ¬ (nI 1 = 6) by decide), eq_false (show ¬ (nI 1 = 8) by decide), eq_false (show ¬ (nI 1 = 9) by decide), eq_false (show ¬ (nI 1 = 13) by decide), eq_false (show ¬ (nI 1 = 10) by decide), eq_false (show ¬ (nI 1 = 12) by decide), eq_false (show ¬ (nI 1 = 11) by decide), eq_false (show ¬ (nI 1 = 14) by decide), true_and, false_and, false_or, or_false, true_or, or_true]
theorem can_2' {m : Nat} {a b : Int32} : (rN 8 a) ↔ p_can m (nI 2) a b := by
  unfold p_can
  simp only [eq_true (show rN 4 (nI 2) by decide), eq_false (show ¬ (nI 2 = 4) by decide), eq_false (show ¬ (nI 2 = 7) by decide), eq_false (show ¬ (nI 2 = 5) by decide), eq_false (show ¬ (nI 2 = 6) by decide), eq_false (show ¬ (nI 2 = 8) by decide), eq_false (show ¬ (nI 2 = 9) by decide), eq_false (show ¬ (nI 2 = 13) by decide), eq_false (show ¬ (nI 2 = 10) by decide), eq_false (show ¬ (nI 2 = 12) by decide), eq_false (show ¬ (nI 2 = 11) by decide), eq_false (show ¬ (nI 2 = 14) by decide), true_and, false_and, false_or, or_false, true_or, or_true]
theorem can_3 {m : Nat} {a b : Int32} : (rN 8 a) ↔ p_can m (nI 3) a b := by
  unfold p_can
  simp only [eq_true (show rN 4 (nI 3) by decide), eq_false (show ¬ (nI 3 = 4) by decide), eq_false (show ¬ (nI 3 = 7) by decide), eq_false (show ¬ (nI 3 = 5) by decide), eq_false (show ¬ (nI 3 = 6) by decide), eq_false (show ¬ (nI 3 = 8) by decide), eq_false (show ¬ (nI 3 = 9) by decide), eq_false (show ¬ (nI 3 = 13) by decide), eq_false (show ¬ (nI 3 = 10) by decide), eq_false (show ¬ (nI 3 = 12) by decide), eq_false (show ¬ (nI 3 = 11) by decide), eq_false (show ¬ (nI 3 = 14) by decide), true_and, false_and, false_or, or_false, true_or, or_true]
theorem can_4 {m : Nat} {a b : Int32} : p_can m (nI 4) a b := by
  unfold p_can
  simp only [eq_true (show (nI 4 = 4) by decide), eq_false (show ¬ rN 4 (nI 4) by decide), eq_false (show ¬ (nI 4 = 7) by decide), eq_false (show ¬ (nI 4 = 5) by decide), eq_false (show ¬ (nI 4 = 6) by decide), eq_false (show ¬ (nI 4 = 8) by decide), eq_false (show ¬ (nI 4 = 9) by decide), eq_false (show ¬ (nI 4 = 13) by decide), eq_false (show ¬ (nI 4 = 10) by decide), eq_false (show ¬ (nI 4 = 12) by decide), eq_false (show ¬ (nI 4 = 11) by decide), eq_false (show ¬ (nI 4 = 14) by decide), true_and, false_and, false_or, or_false, true_or, or_true]
theorem can_5 {m : Nat} {a b : Int32} : (rN 6 a) ↔ p_can m (nI 5) a b := by
  unfold p_can
  simp only [eq_true (show (nI 5 = 5) by decide), eq_false (show ¬ rN 4 (nI 5) by decide), eq_false (show ¬ (nI 5 = 4) by decide), eq_false (show ¬ (nI 5 = 7) by decide), eq_false (show ¬ (nI 5 = 6) by decide), eq_false (show ¬ (nI 5 = 8) by decide), eq_false (show ¬ (nI 5 = 9) by decide), eq_false (show ¬ (nI 5 = 13) by decide), eq_false (show ¬ (nI 5 = 10) by decide), eq_false (show ¬ (nI 5 = 12) by decide), eq_false (show ¬ (nI 5 = 11) by decide), eq_false (show ¬ (nI 5 = 14) by decide), true_and, false_and, false_or, or_false, true_or, or_true]
theorem can_6 {m : Nat} {a b : Int32} : (rN 6 a) ↔ p_can m (nI 6) a b := by
  unfold p_can
  simp only [eq_true (show (nI 6 = 6) by decide), eq_false (show ¬ rN 4 (nI 6) by decide), eq_false (show ¬ (nI 6 = 4) by decide), eq_false (show ¬ (nI 6 = 7) by decide), eq_false (show ¬ (nI 6 = 5) by decide), eq_false (show ¬ (nI 6 = 8) by decide), eq_false (show ¬ (nI 6 = 9) by decide), eq_false (show ¬ (nI 6 = 13) by decide), eq_false (show ¬ (nI 6 = 10) by decide), eq_false (show ¬ (nI 6 = 12) by decide), eq_false (show ¬ (nI 6 = 11) by decide), eq_false (show ¬ (nI 6 = 14) by decide), true_and, false_and, false_or, or_false, true_or, or_true]
theorem can_7 {m : Nat} {a b : Int32} : p_can m (nI 7) a b := by
  unfold p_can
  simp only [eq_true (show (nI 7 = 7) by decide), eq_false (show ¬ rN 4 (nI 7) by decide), eq_false (show ¬ (nI 7 = 4) by decide), eq_false (show ¬ (nI 7 = 5) by decide), eq_false (show ¬ (nI 7 = 6) by decide), eq_false (show ¬ (nI 7 = 8) by decide), eq_false (show ¬ (nI 7 = 9) by decide), eq_false (show ¬ (nI 7 = 13) by decide), eq_false (show ¬ (nI 7 = 10) by decide), eq_false (show ¬ (nI 7 = 12) by decide), eq_false (show ¬ (nI 7 = 11) by decide), eq_false (show ¬ (nI 7 = 14) by decide), true_and, false_and, false_or, or_false, true_or, or_true]
theorem can_8' {m : Nat} {a b : Int32} : (rN m a) ↔ p_can m (nI 8) a b := by
  unfold p_can
  simp only [eq_true (show (nI 8 = 8) by decide), eq_false (show ¬ rN 4 (nI 8) by decide), eq_false (show ¬ (nI 8 = 4) by decide), eq_false (show ¬ (nI 8 = 7) by decide), eq_false (show ¬ (nI 8 = 5) by decide), eq_false (show ¬ (nI 8 = 6) by decide), eq_false (show ¬ (nI 8 = 9) by decide), eq_false (show ¬ (nI 8 = 13) by decide), eq_false (show ¬ (nI 8 = 10) by decide), eq_false (show ¬ (nI 8 = 12) by decide), eq_false (show ¬ (nI 8 = 11) by decide), eq_false (show ¬ (nI 8 = 14) by decide), true_and, false_and, false_or, or_false, true_or, or_true]
theorem can_9 {m : Nat} {a b : Int32} : (rN m a) ↔ p_can m (nI 9) a b := by
  unfold p_can
  simp only [eq_true (show (nI 9 = 9) by decide), eq_false (show ¬ rN 4 (nI 9) by decide), eq_false (show ¬ (nI 9 = 4) by decide), eq_false (show ¬ (nI 9 = 7) by decide), eq_false (show ¬ (nI 9 = 5) by decide), eq_false (show ¬ (nI 9 = 6) by decide), eq_false (show ¬ (nI 9 = 8) by decide), eq_false (show ¬ (nI 9 = 13) by decide), eq_false (show ¬ (nI 9 = 10) by decide), eq_false (show ¬ (nI 9 = 12) by decide), eq_false (show ¬ (nI 9 = 11) by decide), eq_false (show ¬ (nI 9 = 14) by decide), true_and, false_and, false_or, or_false, true_or, or_true]
theorem can_10 {m : Nat} {a b : Int32} : (rN m a ∧ rN 8 b) ↔ p_can m (nI 10) a b := by
  unfold p_can
  simp only [eq_true (show (nI 10 = 10) by decide), eq_false (show ¬ rN 4 (nI 10) by decide), eq_false (show ¬ (nI 10 = 4) by decide), eq_false (show ¬ (nI 10 = 7) by decide), eq_false (show ¬ (nI 10 = 5) by decide), eq_false (show ¬ (nI 10 = 6) by decide), eq_false (show ¬ (nI 10 = 8) by decide), eq_false (show ¬ (nI 10 = 9) by decide), eq_false (show ¬ (nI 10 = 13) by decide), eq_false (show ¬ (nI 10 = 12) by decide), eq_false (show ¬ (nI 10 = 11) by decide), eq_false (show ¬ (nI 10 = 14) by decide), true_and, false_and, false_or, or_false, true_or, or_true]
theorem can_11 {m : Nat} {a b : Int32} : (rN m a ∧ rN m b) ↔ p_can m (nI 11) a b := by
  unfold p_can
  simp only [eq_true (show (nI 11 = 11) by decide), eq_false (show ¬ rN 4 (nI 11) by decide), eq_false (show ¬ (nI 11 = 4) by decide), eq_false (show ¬ (nI 11 = 7) by decide), eq_false (show ¬ (nI 11 = 5) by decide), eq_false (show ¬ (nI 11 = 6) by decide), eq_false (show ¬ (nI 11 = 8) by decide), eq_false (show ¬ (nI 11 = 9) by decide), eq_false (show ¬ (nI 11 = 13) by decide), eq_false (show ¬ (nI 11 = 10) by decide), eq_false (show ¬ (nI 11 = 12) by decide), eq_false (show ¬ (nI 11 = 14) by decide), true_and, false_and, false_or, or_false, true_or, or_true]
theorem can_12 {m : Nat} {a b : Int32} : (rN m a ∧ rN 8 b) ↔ p_can m (nI 12) a b := by
  unfold p_can
  simp only [eq_true (show (nI 12 = 12) by decide), eq_false (show ¬ rN 4 (nI 12) by decide), eq_false (show ¬ (nI 12 = 4) by decide), eq_false (show ¬ (nI 12 = 7) by decide), eq_false (show ¬ (nI 12 = 5) by decide), eq_false (show ¬ (nI 12 = 6) by decide), eq_false (show ¬ (nI 12 = 8) by decide), eq_false (show ¬ (nI 12 = 9) by decide), eq_false (show ¬ (nI 12 = 13) by decide), eq_false (show ¬ (nI 12 = 10) by decide), eq_false (show ¬ (nI 12 = 11) by decide), eq_false (show ¬ (nI 12 = 14) by decide), true_and, false_and, false_or, or_false, true_or, or_true]
theorem can_13 {m : Nat} {a b : Int32} : (rN m a) ↔ p_can m (nI 13) a b := by
  unfold p_can
  simp only [eq_true (show (nI 13 = 13) by decide), eq_false (show ¬ rN 4 (nI 13) by decide), eq_false (show ¬ (nI 13 = 4) by decide), eq_false (show ¬ (nI 13 = 7) by decide), eq_false (show ¬ (nI 13 = 5) by decide), eq_false (show ¬ (nI 13 = 6) by decide), eq_false (show ¬ (nI 13 = 8) by decide), eq_false (show ¬ (nI 13 = 9) by decide), eq_false (show ¬ (nI 13 = 10) by decide), eq_false (show ¬ (nI 13 = 12) by decide), eq_false (show ¬ (nI 13 = 11) by decide), eq_false (show ¬ (nI 13 = 14) by decide), true_and, false_and, false_or, or_false, true_or, or_true]
theorem can_14 {m : Nat} {a b : Int32} : (rN m a ∧ rN 6 b) ↔ p_can m (nI 14) a b := by
  unfold p_can
  simp only [eq_true (show (nI 14 = 14) by decide), eq_false (show ¬ rN 4 (nI 14) by decide), eq_false (show ¬ (nI 14 = 4) by decide), eq_false (show ¬ (nI 14 = 7) by decide), eq_false (show ¬ (nI 14 = 5) by decide), eq_false (show ¬ (nI 14 = 6) by decide), eq_false (show ¬ (nI 14 = 8) by decide), eq_false (show ¬ (nI 14 = 9) by decide), eq_false (show ¬ (nI 14 = 13) by decide), eq_false (show ¬ (nI 14 = 10) by decide), eq_false (show ¬ (nI 14 = 12) by decide), eq_false (show ¬ (nI 14 = 11) by decide), true_and, false_and, false_or, or_false, true_or, or_true]
theorem can_in {m : Nat} {s a b : Int32} (h : p_can m s a b) : rN 15 s := by
  unfold p_can at h
  rcases h with ⟨h, -⟩ | h | h | ⟨h | h, -⟩ | ⟨h | h | h, -⟩ | ⟨h | h, -⟩ | ⟨h, -⟩ | ⟨h, -⟩
  · obtain ⟨j, hj, rfl⟩ := rN_of (by omega) h
    exact rN_nI (by omega) (by omega)
  all_goals (subst h; decide)
theorem c_canBeMade {F : Nat} {h : mm_H} {S : St} {s a b : Int32} (hR : RC S h) : mW none (F + 1) mX3_canBeMade 0 [(0, .ref 1), (1, .int s), (2, .int a), (3, .int b)] [] h (fun r h' => r = some (.int (bz (p_can (sM S) s a b))) ∧ h = h') := by
  have tT : (rN 8 a ↔ p_can (sM S) s a b) → mW none (F + 1) mX3_canBeMade 76 [(0, .ref 1), (1, .int s), (2, .int a), (3, .int b)] [] h (fun r h' => r = some (.int (bz (p_can (sM S) s a b))) ∧ h = h') := fun e => by
    refine w_iload_n (q := 77) aX3_canBeMade_76 rfl rfl ?_
    refine w_i2l (q := 78) aX3_canBeMade_77 rfl ?_
    refine w_callS aX3_canBeMade_78 x_3_45 t_3_45 (rfl) (c_isTally) (fun r78 h78 hp => ?_)
    obtain ⟨rfl, rfl⟩ := hp
    refine w_zret aX3_canBeMade_81 rfl (bz_or) ?_
    exact ⟨by rw [bz_iff ((rL_of a).trans e)], rfl⟩
  have t1 : p_can (sM S) s a b → mW none (F + 1) mX3_canBeMade 82 [(0, .ref 1), (1, .int s), (2, .int a), (3, .int b)] [] h (fun r h' => r = some (.int (bz (p_can (sM S) s a b))) ∧ h = h') := fun e => by
    refine w_iconst (v := 1) (q := 83) aX3_canBeMade_82 rfl rfl ?_
    refine w_zret aX3_canBeMade_83 rfl (Or.inr rfl) ?_
    exact ⟨by rw [bz_1 e], rfl⟩
  have tB : (rN 6 a ↔ p_can (sM S) s a b) → mW none (F + 1) mX3_canBeMade 84 [(0, .ref 1), (1, .int s), (2, .int a), (3, .int b)] [] h (fun r h' => r = some (.int (bz (p_can (sM S) s a b))) ∧ h = h') := fun e => by
    refine w_iload_n (q := 85) aX3_canBeMade_84 rfl rfl ?_
    refine w_callS aX3_canBeMade_85 x_3_49 t_3_49 (rfl) (c_isBell) (fun r85 h85 hp => ?_)
    obtain ⟨rfl, rfl⟩ := hp
    refine w_zret aX3_canBeMade_88 rfl (bz_or) ?_
    exact ⟨by rw [bz_iff e], rfl⟩
  have tH : (rN (sM S) a ↔ p_can (sM S) s a b) → mW none (F + 1) mX3_canBeMade 89 [(0, .ref 1), (1, .int s), (2, .int a), (3, .int b)] [] h (fun r h' => r = some (.int (bz (p_can (sM S) s a b))) ∧ h = h') := fun e => by
    refine w_aload_n (q := 90) aX3_canBeMade_89 rfl rfl ?_
    refine w_iload_n (q := 91) aX3_canBeMade_90 rfl rfl ?_
    refine w_callV aX3_canBeMade_91 t_3_64 (this_at rfl hR.ho) (rfl) (c_isHearer hR) (fun r91 h91 hp => ?_)
    obtain ⟨rfl, rfl⟩ := hp
    refine w_zret aX3_canBeMade_94 rfl (bz_or) ?_
    exact ⟨by rw [bz_iff e], rfl⟩
  have tHT : (rN (sM S) a ∧ rN 8 b ↔ p_can (sM S) s a b) → mW none (F + 1) mX3_canBeMade 95 [(0, .ref 1), (1, .int s), (2, .int a), (3, .int b)] [] h (fun r h' => r = some (.int (bz (p_can (sM S) s a b))) ∧ h = h') := fun e => by
    refine w_aload_n (q := 96) aX3_canBeMade_95 rfl rfl ?_
    refine w_iload_n (q := 97) aX3_canBeMade_96 rfl rfl ?_
    refine w_callV aX3_canBeMade_97 t_3_64 (this_at rfl hR.ho) (rfl) (c_isHearer hR) (fun r97 h97 hp => ?_)
    obtain ⟨rfl, rfl⟩ := hp
    refine w_if_eq (t := 115) (q := 103) aX3_canBeMade_100 (by decide) rfl (fun c100 => ?_) (fun c100 => ?_)
    · refine w_iconst (v := 0) (q := 116) aX3_canBeMade_115 rfl rfl ?_
      refine w_zret aX3_canBeMade_116 rfl (Or.inl rfl) ?_
      exact ⟨by rw [bz_0 (fun z => bz_eq0 c100 (e.mpr z).1)], rfl⟩
    · refine w_iload_n (q := 104) aX3_canBeMade_103 rfl rfl ?_
      refine w_i2l (q := 105) aX3_canBeMade_104 rfl ?_
      refine w_callS aX3_canBeMade_105 x_3_45 t_3_45 (rfl) (c_isTally) (fun r105 h105 hp => ?_)
      obtain ⟨rfl, rfl⟩ := hp
      refine w_if_eq (t := 115) (q := 111) aX3_canBeMade_108 (by decide) rfl (fun c108 => ?_) (fun c108 => ?_)
      · refine w_iconst (v := 0) (q := 116) aX3_canBeMade_115 rfl rfl ?_
        refine w_zret aX3_canBeMade_116 rfl (Or.inl rfl) ?_
        exact ⟨by rw [bz_0 (fun z => bz_eq0 c108 ((rL_of b).mpr (e.mpr z).2))], rfl⟩
      · refine w_iconst (v := 1) (q := 112) aX3_canBeMade_111 rfl rfl ?_
        refine w_goto (t := 116) aX3_canBeMade_112 (by decide) ?_
        refine w_zret aX3_canBeMade_116 rfl (Or.inr rfl) ?_
        exact ⟨by rw [bz_1 (e.mp ⟨bz_ne0 c100, (rL_of b).mp (bz_ne0 c108)⟩)], rfl⟩
  have tHH : (rN (sM S) a ∧ rN (sM S) b ↔ p_can (sM S) s a b) → mW none (F + 1) mX3_canBeMade 117 [(0, .ref 1), (1, .int s), (2, .int a), (3, .int b)] [] h (fun r h' => r = some (.int (bz (p_can (sM S) s a b))) ∧ h = h') := fun e => by
    refine w_aload_n (q := 118) aX3_canBeMade_117 rfl rfl ?_
    refine w_iload_n (q := 119) aX3_canBeMade_118 rfl rfl ?_
    refine w_callV aX3_canBeMade_119 t_3_64 (this_at rfl hR.ho) (rfl) (c_isHearer hR) (fun r119 h119 hp => ?_)
    obtain ⟨rfl, rfl⟩ := hp
    refine w_if_eq (t := 137) (q := 125) aX3_canBeMade_122 (by decide) rfl (fun c122 => ?_) (fun c122 => ?_)
    · refine w_iconst (v := 0) (q := 138) aX3_canBeMade_137 rfl rfl ?_
      refine w_zret aX3_canBeMade_138 rfl (Or.inl rfl) ?_
      exact ⟨by rw [bz_0 (fun z => bz_eq0 c122 (e.mpr z).1)], rfl⟩
    · refine w_aload_n (q := 126) aX3_canBeMade_125 rfl rfl ?_
      refine w_iload_n (q := 127) aX3_canBeMade_126 rfl rfl ?_
      refine w_callV aX3_canBeMade_127 t_3_64 (this_at rfl hR.ho) (rfl) (c_isHearer hR) (fun r127 h127 hp => ?_)
      obtain ⟨rfl, rfl⟩ := hp
      refine w_if_eq (t := 137) (q := 133) aX3_canBeMade_130 (by decide) rfl (fun c130 => ?_) (fun c130 => ?_)
      · refine w_iconst (v := 0) (q := 138) aX3_canBeMade_137 rfl rfl ?_
        refine w_zret aX3_canBeMade_138 rfl (Or.inl rfl) ?_
        exact ⟨by rw [bz_0 (fun z => bz_eq0 c130 (e.mpr z).2)], rfl⟩
      · refine w_iconst (v := 1) (q := 134) aX3_canBeMade_133 rfl rfl ?_
        refine w_goto (t := 138) aX3_canBeMade_134 (by decide) ?_
        refine w_zret aX3_canBeMade_138 rfl (Or.inr rfl) ?_
        exact ⟨by rw [bz_1 (e.mp ⟨bz_ne0 c122, bz_ne0 c130⟩)], rfl⟩
  have tHB : (rN (sM S) a ∧ rN 6 b ↔ p_can (sM S) s a b) → mW none (F + 1) mX3_canBeMade 139 [(0, .ref 1), (1, .int s), (2, .int a), (3, .int b)] [] h (fun r h' => r = some (.int (bz (p_can (sM S) s a b))) ∧ h = h') := fun e => by
    refine w_aload_n (q := 140) aX3_canBeMade_139 rfl rfl ?_
    refine w_iload_n (q := 141) aX3_canBeMade_140 rfl rfl ?_
    refine w_callV aX3_canBeMade_141 t_3_64 (this_at rfl hR.ho) (rfl) (c_isHearer hR) (fun r141 h141 hp => ?_)
    obtain ⟨rfl, rfl⟩ := hp
    refine w_if_eq (t := 158) (q := 147) aX3_canBeMade_144 (by decide) rfl (fun c144 => ?_) (fun c144 => ?_)
    · refine w_iconst (v := 0) (q := 159) aX3_canBeMade_158 rfl rfl ?_
      refine w_zret aX3_canBeMade_159 rfl (Or.inl rfl) ?_
      exact ⟨by rw [bz_0 (fun z => bz_eq0 c144 (e.mpr z).1)], rfl⟩
    · refine w_iload_n (q := 148) aX3_canBeMade_147 rfl rfl ?_
      refine w_callS aX3_canBeMade_148 x_3_49 t_3_49 (rfl) (c_isBell) (fun r148 h148 hp => ?_)
      obtain ⟨rfl, rfl⟩ := hp
      refine w_if_eq (t := 158) (q := 154) aX3_canBeMade_151 (by decide) rfl (fun c151 => ?_) (fun c151 => ?_)
      · refine w_iconst (v := 0) (q := 159) aX3_canBeMade_158 rfl rfl ?_
        refine w_zret aX3_canBeMade_159 rfl (Or.inl rfl) ?_
        exact ⟨by rw [bz_0 (fun z => bz_eq0 c151 (e.mpr z).2)], rfl⟩
      · refine w_iconst (v := 1) (q := 155) aX3_canBeMade_154 rfl rfl ?_
        refine w_goto (t := 159) aX3_canBeMade_155 (by decide) ?_
        refine w_zret aX3_canBeMade_159 rfl (Or.inr rfl) ?_
        exact ⟨by rw [bz_1 (e.mp ⟨bz_ne0 c144, bz_ne0 c151⟩)], rfl⟩
  refine w_iload_n (q := 1) aX3_canBeMade_0 rfl rfl ?_
  by_cases hx : rN 15 s
  · obtain ⟨j, hj, rfl⟩ := rN_of (by omega) hx
    have hcs : j = 0 ∨ j = 1 ∨ j = 2 ∨ j = 3 ∨ j = 4 ∨ j = 5 ∨ j = 6 ∨ j = 7 ∨ j = 8 ∨ j = 9 ∨ j = 10 ∨ j = 11 ∨ j = 12 ∨ j = 13 ∨ j = 14 := by omega
    rcases hcs with rfl | rfl | rfl | rfl | rfl | rfl | rfl | rfl | rfl | rfl | rfl | rfl | rfl | rfl | rfl
    · refine w_table (t := 76) (o := 75) aX3_canBeMade_1 (by skip; decide) (by skip; decide) (by skip; rfl) (by decide) ?_
      exact tT (can_0)
    · refine w_table (t := 76) (o := 75) aX3_canBeMade_1 (by skip; decide) (by skip; decide) (by skip; rfl) (by decide) ?_
      exact tT (can_1)
    · refine w_table (t := 76) (o := 75) aX3_canBeMade_1 (by skip; decide) (by skip; decide) (by skip; rfl) (by decide) ?_
      exact tT (can_2')
    · refine w_table (t := 76) (o := 75) aX3_canBeMade_1 (by skip; decide) (by skip; decide) (by skip; rfl) (by decide) ?_
      exact tT (can_3)
    · refine w_table (t := 82) (o := 81) aX3_canBeMade_1 (by skip; decide) (by skip; decide) (by skip; rfl) (by decide) ?_
      exact t1 (can_4)
    · refine w_table (t := 84) (o := 83) aX3_canBeMade_1 (by skip; decide) (by skip; decide) (by skip; rfl) (by decide) ?_
      exact tB (can_5)
    · refine w_table (t := 84) (o := 83) aX3_canBeMade_1 (by skip; decide) (by skip; decide) (by skip; rfl) (by decide) ?_
      exact tB (can_6)
    · refine w_table (t := 82) (o := 81) aX3_canBeMade_1 (by skip; decide) (by skip; decide) (by skip; rfl) (by decide) ?_
      exact t1 (can_7)
    · refine w_table (t := 89) (o := 88) aX3_canBeMade_1 (by skip; decide) (by skip; decide) (by skip; rfl) (by decide) ?_
      exact tH (can_8')
    · refine w_table (t := 89) (o := 88) aX3_canBeMade_1 (by skip; decide) (by skip; decide) (by skip; rfl) (by decide) ?_
      exact tH (can_9)
    · refine w_table (t := 95) (o := 94) aX3_canBeMade_1 (by skip; decide) (by skip; decide) (by skip; rfl) (by decide) ?_
      exact tHT (can_10)
    · refine w_table (t := 117) (o := 116) aX3_canBeMade_1 (by skip; decide) (by skip; decide) (by skip; rfl) (by decide) ?_
      exact tHH (can_11)
    · refine w_table (t := 95) (o := 94) aX3_canBeMade_1 (by skip; decide) (by skip; decide) (by skip; rfl) (by decide) ?_
      exact tHT (can_12)
    · refine w_table (t := 89) (o := 88) aX3_canBeMade_1 (by skip; decide) (by skip; decide) (by skip; rfl) (by decide) ?_
      exact tH (can_13)
    · refine w_table (t := 139) (o := 138) aX3_canBeMade_1 (by skip; decide) (by skip; decide) (by skip; rfl) (by decide) ?_
      exact tHB (can_14)
  · refine w_tableD (t := 160) aX3_canBeMade_1 (rN_out hx) (by decide) ?_
    refine w_iconst (v := 0) (q := 161) aX3_canBeMade_160 rfl rfl ?_
    refine w_zret aX3_canBeMade_161 rfl (Or.inl rfl) ?_
    exact ⟨by rw [bz_0 (fun z => hx (can_in z))], rfl⟩
