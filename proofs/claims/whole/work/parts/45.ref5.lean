theorem in_8_12 {s : Int32} : (¬ s.toInt64 < 8 ∧ s.toInt64 ≤ 12) ↔ (8 ≤ s ∧ s ≤ 12) := by
  rw [Int64.lt_iff_toInt_lt, Int64.le_iff_toInt_le, Int32.le_iff_toInt_le, Int32.le_iff_toInt_le, Int32.toInt_toInt64]
  show (¬ s.toInt < 8 ∧ s.toInt ≤ 12) ↔ (8 ≤ s.toInt ∧ s.toInt ≤ 12)
  omega
theorem rTm_0 (A : Act9) : rTm A 0 0 := ⟨fun _ => ⟨0, rfl, Nat.le_refl _, fun _ => rfl, fun h => h⟩, fun _ => ⟨0, rfl, by simp⟩⟩
theorem p_make_M (S : St) (s a b : Int32) : sM (p_make S s a b) = sM S + 1 := rfl
set_option maxHeartbeats 1000000 in
theorem d_make {F : Nat} {h : mm_H} {S : St} {P : List Fr} {X : Xs} {s a b : Int32} (hS : sM S < 40) (h2 : s = 2 → rN 8 a) (h8 : 8 ≤ s → s ≤ 12 → rN (sM S) a) (h11 : s = 11 → rN (sM S) b) (hR : RM S P X h) : mW none (F + 1) mX4_make 0 [(0, .ref 32), (1, .int s), (2, .int a), (3, .int b)] [] h (fun r h' => r = none ∧ RM (p_make S s a b) P X h' ∧ fr AM h h') := by
  obtain ⟨w, hm, r1, r2, r3, r4⟩ := hR
  have m32 := hm 32 (by decide) (by decide)
  have last : ∀ (h1 : mm_H), (∀ q, 32 ≤ q → q < 55 → ¬ (37 ≤ q ∧ q ≤ 42) → h1.2.2 q = h.2.2 q) → h1.2.2 37 = some (5, rg 40 (fu (fun j => .int (if j < sM S then (sA S j).1 else 0)) (sM S) (.int s))) → h1.2.2 38 = some (5, rg 40 (fu (fun j => .int (if j < sM S then (sA S j).2.1 else 0)) (sM S) (.int a))) → h1.2.2 39 = some (5, rg 40 (fu (fun j => .int (if j < sM S then (sA S j).2.2.1 else 0)) (sM S) (.int b))) → h1.2.2 40 = some (6, rg 40 (fu (fun j => .long (if j < sM S then (sA S j).2.2.2.1 else 0)) (sM S) (.long (p_act S s a b).2.2.2.1))) → h1.2.2 41 = some (5, rg 40 (fu (fun j => .int (if j < sM S then oI (sA S j).2.2.2.2.1 else 0)) (sM S) (.int (oI (p_act S s a b).2.2.2.2.1)))) → h1.2.2 42 = some (5, rg 40 (fu (fun j => .int (if j < sM S then oI (sA S j).2.2.2.2.2 else 0)) (sM S) (.int (oI (p_act S s a b).2.2.2.2.2)))) → fr AM h h1 →
      mW none (F + 1) mX4_make 106 [(4, .int (nI (sM S))), (0, .ref 32), (1, .int s), (2, .int a), (3, .int b)] [] h1 (fun r h' => r = none ∧ RM (p_make S s a b) P X h' ∧ fr AM h h') := fun h1 ho g37 g38 g39 g40 g41 g42 hf => by
    have g32 := (ho 32 (by decide) (by decide) (by decide)).trans m32
    have g43 := (ho 43 (by decide) (by decide) (by decide)).trans (hm 43 (by decide) (by decide))
    have g44 := (ho 44 (by decide) (by decide) (by decide)).trans (hm 44 (by decide) (by decide))
    have g45 := (ho 45 (by decide) (by decide) (by decide)).trans (hm 45 (by decide) (by decide))
    have g54 := (ho 54 (by decide) (by decide) (by decide)).trans (hm 54 (by decide) (by decide))
    refine w_aload_n (q := 107) aX4_make_106 rfl rfl ?_
    refine w_get (q := 110) aX4_make_107 f_4_41 (g32) rfl rfl ?_
    refine w_iload (q := 112) aX4_make_110 rfl rfl ?_
    refine w_iconst (v := 0) (q := 113) aX4_make_112 rfl rfl ?_
    refine w_iast (q := 114) (n := sM S) (vs' := _) aX4_make_113 (g43) (rfl) (by rw [rg_len]; omega) (by rw [rg_len]; omega) (rg_set _ _ _ _) rfl ?_
    refine w_aload_n (q := 115) aX4_make_114 rfl rfl ?_
    refine w_get (q := 118) aX4_make_115 f_4_44 (g32) rfl rfl ?_
    refine w_iload (q := 120) aX4_make_118 rfl rfl ?_
    refine w_iconst (v := 0) (q := 121) aX4_make_120 rfl rfl ?_
    refine w_iast (q := 122) (n := sM S) (vs' := _) aX4_make_121 (g44) (rfl) (by rw [rg_len]; omega) (by rw [rg_len]; omega) (rg_set _ _ _ _) rfl ?_
    refine w_aload_n (q := 123) aX4_make_122 rfl rfl ?_
    refine w_get (q := 126) aX4_make_123 f_4_47 (g32) rfl rfl ?_
    refine w_iload (q := 128) aX4_make_126 rfl rfl ?_
    refine w_iload (q := 130) aX4_make_128 rfl rfl ?_
    refine w_iast (q := 131) (n := sM S) (vs' := _) aX4_make_130 (g45) (rfl) (by rw [rg_len]; omega) (by rw [rg_len]; omega) (rg_set _ _ _ _) rfl ?_
    refine w_aload_n (q := 132) aX4_make_131 rfl rfl ?_
    refine w_dup (q := 133) aX4_make_132 rfl rfl ?_
    refine w_get (q := 136) aX4_make_133 f_4_81 (g32) rfl rfl ?_
    refine w_iconst (v := 1) (q := 137) aX4_make_136 rfl rfl ?_
    refine w_iadd (q := 138) aX4_make_137 rfl ?_
    refine w_put (q := 141) (fs' := [_, _, _, _, _, _, _, _, _, _, _, _, _, _, _, _, _, _, _, _, _, _, _, _, _, _, _, _, _, _, _]) aX4_make_138 f_4_81 (g32) (Nat.le_of_ble_eq_true rfl) rfl rfl (Or.inl rfl) rfl rfl ?_
    refine w_aload_n (q := 142) aX4_make_141 rfl rfl ?_
    refine w_get (q := 145) aX4_make_142 f_4_74 (up_s _ _ _) rfl rfl ?_
    refine w_iconst (v := 0) (q := 146) aX4_make_145 rfl rfl ?_
    refine w_aload_n (q := 147) aX4_make_146 rfl rfl ?_
    refine w_get (q := 150) aX4_make_147 f_4_81 (up_s _ _ _) rfl rfl ?_
    refine w_iast (q := 151) (n := 0) (vs' := _) aX4_make_150 (g54) (rfl) (by rw [rg_len]; omega) (by rw [rg_len]; omega) (rg_set _ _ _ _) rfl ?_
    refine w_vret aX4_make_151 rfl ?_
    refine ⟨rfl, ⟨(w.1, fu w.2.1 (sM S) 0, w.2.2), ?_, r1, ?_, r3, r4⟩, ((((hf.up (AM_l (by omega))).up (AM_l (by omega))).up (AM_l (by omega))).up (AM_l (by omega))).up (AM_l (by omega))⟩
    · have f37 : fu (fun j => Value.int (if j < sM S then (sA S j).1 else 0)) (sM S) (.int s) = fun j => Value.int (if j < sM S + 1 then (fu (sA S) (sM S) (p_act S s a b) j).1 else 0) := fu_new (g := fun A : Act9 => A.1) (x := p_act S s a b)
      have f38 : fu (fun j => Value.int (if j < sM S then (sA S j).2.1 else 0)) (sM S) (.int a) = fun j => Value.int (if j < sM S + 1 then (fu (sA S) (sM S) (p_act S s a b) j).2.1 else 0) := fu_new (g := fun A : Act9 => A.2.1) (x := p_act S s a b)
      have f39 : fu (fun j => Value.int (if j < sM S then (sA S j).2.2.1 else 0)) (sM S) (.int b) = fun j => Value.int (if j < sM S + 1 then (fu (sA S) (sM S) (p_act S s a b) j).2.2.1 else 0) := fu_new (g := fun A : Act9 => A.2.2.1) (x := p_act S s a b)
      have f40 : fu (fun j => Value.long (if j < sM S then (sA S j).2.2.2.1 else 0)) (sM S) (.long (p_act S s a b).2.2.2.1) = fun j => Value.long (if j < sM S + 1 then (fu (sA S) (sM S) (p_act S s a b) j).2.2.2.1 else 0) := fu_newL (g := fun A : Act9 => A.2.2.2.1) (x := p_act S s a b)
      have f41 : fu (fun j => Value.int (if j < sM S then oI (sA S j).2.2.2.2.1 else 0)) (sM S) (.int (oI (p_act S s a b).2.2.2.2.1)) = fun j => Value.int (if j < sM S + 1 then oI (fu (sA S) (sM S) (p_act S s a b) j).2.2.2.2.1 else 0) := fu_new (g := fun A : Act9 => oI A.2.2.2.2.1) (x := p_act S s a b)
      have f42 : fu (fun j => Value.int (if j < sM S then oI (sA S j).2.2.2.2.2 else 0)) (sM S) (.int (oI (p_act S s a b).2.2.2.2.2)) = fun j => Value.int (if j < sM S + 1 then oI (fu (sA S) (sM S) (p_act S s a b) j).2.2.2.2.2 else 0) := fu_new (g := fun A : Act9 => oI A.2.2.2.2.2) (x := p_act S s a b)
      have f43 : fu (fun j => Value.int (w.2.1 j)) (sM S) (.int 0) = fun j => Value.int (fu w.2.1 (sM S) 0 j) := fu_map Value.int w.2.1 _ 0
      have f44 : fu (fun j => Value.int (if j < sM S then nI (sB S j) else 0)) (sM S) (.int 0) = fun j => Value.int (if j < sM S + 1 then nI (fu (sB S) (sM S) 0 j) else 0) := fu_new (g := nI) (x := 0)
      have f45 : fu (fun j => Value.int (if j < sM S then oI (sH S j) else 0)) (sM S) (.int (nI (sM S))) = fun j => Value.int (if j < sM S + 1 then oI (fu (sH S) (sM S) (some (sM S)) j) else 0) := fu_new (g := oI) (x := some (sM S))
      have f54 : fu (fun j => Value.int (if j = 0 then nI (sM S) else sC S j)) 0 (.int (nI (sM S) + 1)) = fun j => Value.int (if j = 0 then nI (sM S + 1) else sC S j) := by
        funext j
        unfold fu
        by_cases e : j = 0
        · rw [if_pos e, if_pos e, nI_1]
        · simp only [e, if_false]
      have e32 : moL (p_make S s a b) P.length X = [.ref 33, .ref 34, .ref 35, .ref 36, .int (nI (sM S) + 1), .ref 37, .ref 38, .ref 39, .ref 40, .ref 41, .ref 42, .ref 43, .ref 44, .ref 45, .ref 46, .ref 47, .int (nI (sQ S).length), .int (nI P.length), .ref 48, .ref 49, .ref 50, .ref 51, .ref 52, .ref 53, .int (nI (sD S)), .int (nI (sS S)), .int X.1, .int X.2.1, .int X.2.2.1, .long X.2.2.2, .ref 54] := by rw [nI_1]; rfl
      intro q h1 h2
      rcases q23 q h1 h2 with rfl | rfl | rfl | rfl | rfl | rfl | rfl | rfl | rfl | rfl | rfl | rfl | rfl | rfl | rfl | rfl | rfl | rfl | rfl | rfl | rfl | rfl | rfl
      · exact congrArg (fun z => some ((4 : Nat), z)) e32.symm
      · exact (ho 33 h1 h2 (by decide)).trans (hm 33 h1 h2)
      · exact (ho 34 h1 h2 (by decide)).trans (hm 34 h1 h2)
      · exact (ho 35 h1 h2 (by decide)).trans (hm 35 h1 h2)
      · exact (ho 36 h1 h2 (by decide)).trans (hm 36 h1 h2)
      · exact g37.trans (congrArg (fun z => some ((5 : Nat), rg 40 z)) f37)
      · exact g38.trans (congrArg (fun z => some ((5 : Nat), rg 40 z)) f38)
      · exact g39.trans (congrArg (fun z => some ((5 : Nat), rg 40 z)) f39)
      · exact g40.trans (congrArg (fun z => some ((6 : Nat), rg 40 z)) f40)
      · exact g41.trans (congrArg (fun z => some ((5 : Nat), rg 40 z)) f41)
      · exact g42.trans (congrArg (fun z => some ((5 : Nat), rg 40 z)) f42)
      · exact congrArg (fun z => some ((5 : Nat), rg 40 z)) f43
      · exact congrArg (fun z => some ((5 : Nat), rg 40 z)) f44
      · exact congrArg (fun z => some ((5 : Nat), rg 40 z)) f45
      · exact (ho 46 h1 h2 (by decide)).trans (hm 46 h1 h2)
      · exact (ho 47 h1 h2 (by decide)).trans (hm 47 h1 h2)
      · exact (ho 48 h1 h2 (by decide)).trans (hm 48 h1 h2)
      · exact (ho 49 h1 h2 (by decide)).trans (hm 49 h1 h2)
      · exact (ho 50 h1 h2 (by decide)).trans (hm 50 h1 h2)
      · exact (ho 51 h1 h2 (by decide)).trans (hm 51 h1 h2)
      · exact (ho 52 h1 h2 (by decide)).trans (hm 52 h1 h2)
      · exact (ho 53 h1 h2 (by decide)).trans (hm 53 h1 h2)
      · exact congrArg (fun z => some ((5 : Nat), rg 10 z)) f54
    · intro k hk
      have hk2 : k < sM S + 1 := hk
      show rTm (fu (sA S) (sM S) (p_act S s a b) k) (fu (sB S) (sM S) 0 k) (fu w.2.1 (sM S) 0 k)
      by_cases e : k = sM S
      · subst e
        rw [fu_s, fu_s, fu_s]
        exact rTm_0 _
      · rw [fu_n e, fu_n e, fu_n e]
        exact r2 k (by omega)
  have s83 : ∀ (h1 : mm_H), (∀ q, 32 ≤ q → q < 55 → ¬ (37 ≤ q ∧ q ≤ 41) → h1.2.2 q = h.2.2 q) → h1.2.2 37 = some (5, rg 40 (fu (fun j => .int (if j < sM S then (sA S j).1 else 0)) (sM S) (.int s))) → h1.2.2 38 = some (5, rg 40 (fu (fun j => .int (if j < sM S then (sA S j).2.1 else 0)) (sM S) (.int a))) → h1.2.2 39 = some (5, rg 40 (fu (fun j => .int (if j < sM S then (sA S j).2.2.1 else 0)) (sM S) (.int b))) → h1.2.2 40 = some (6, rg 40 (fu (fun j => .long (if j < sM S then (sA S j).2.2.2.1 else 0)) (sM S) (.long (p_act S s a b).2.2.2.1))) → h1.2.2 41 = some (5, rg 40 (fu (fun j => .int (if j < sM S then oI (sA S j).2.2.2.2.1 else 0)) (sM S) (.int (oI (p_act S s a b).2.2.2.2.1)))) → fr AM h h1 →
      mW none (F + 1) mX4_make 83 [(4, .int (nI (sM S))), (0, .ref 32), (1, .int s), (2, .int a), (3, .int b)] [] h1 (fun r h' => r = none ∧ RM (p_make S s a b) P X h' ∧ fr AM h h') := fun h1 ho g37 g38 g39 g40 g41 hf => by
    have g32 := (ho 32 (by decide) (by decide) (by decide)).trans m32
    have g42 := (ho 42 (by decide) (by decide) (by decide)).trans (hm 42 (by decide) (by decide))
    have g45 := (ho 45 (by decide) (by decide) (by decide)).trans (hm 45 (by decide) (by decide))
    have fin : ∀ y : Int32, y = oI (p_act S s a b).2.2.2.2.2 → mW none (F + 1) mX4_make 105 [(4, .int (nI (sM S))), (0, .ref 32), (1, .int s), (2, .int a), (3, .int b)] [.int y, .int (nI (sM S)), .ref 42] h1 (fun r h' => r = none ∧ RM (p_make S s a b) P X h' ∧ fr AM h h') := fun y hy => by
      subst hy
      refine w_iast (q := 106) (n := sM S) (vs' := _) aX4_make_105 (g42) (rfl) (by rw [rg_len]; omega) (by rw [rg_len]; omega) (rg_set _ _ _ _) rfl ?_
      exact last _ (fun q h1 h2 h3 => (up_n (by omega)).trans (ho q h1 h2 (by omega))) ((up_n (by decide)).trans g37) ((up_n (by decide)).trans g38) ((up_n (by decide)).trans g39) ((up_n (by decide)).trans g40) ((up_n (by decide)).trans g41) (up_s _ _ _) (hf.up (AM_l (by omega)))
    have e : (p_act S s a b).2.2.2.2.2 = if s = 11 then sH S b.toNatClampNeg else none := rfl
    rw [e] at fin
    refine w_aload_n (q := 84) aX4_make_83 rfl rfl ?_
    refine w_get (q := 87) aX4_make_84 f_4_38 (g32) rfl rfl ?_
    refine w_iload (q := 89) aX4_make_87 rfl rfl ?_
    refine w_iload_n (q := 90) aX4_make_89 rfl rfl ?_
    refine w_bipush (v := 11) (q := 92) aX4_make_90 rfl rfl ?_
    refine w_ic_ne (t := 104) (q := 95) aX4_make_92 (by decide) rfl (fun c92 => ?_) (fun c92 => ?_)
    · rw [if_neg c92] at fin
      refine w_iconst (v := -1) (q := 105) aX4_make_104 rfl rfl ?_
      exact fin _ rfl
    · rw [if_pos c92] at fin
      obtain ⟨j, hj, rfl⟩ := rN_of (by omega) (h11 c92)
      rw [nI_clamp (by omega)] at fin
      refine w_aload_n (q := 96) aX4_make_95 rfl rfl ?_
      refine w_get (q := 99) aX4_make_96 f_4_47 (g32) rfl rfl ?_
      refine w_iload_n (q := 100) aX4_make_99 rfl rfl ?_
      refine w_iald (q := 101) aX4_make_100 (by decide) (g45) (mm_ix_at (n := j) rfl (by omega) (rg_at (by omega))) rfl ?_
      rw [if_pos hj]
      refine w_goto (t := 105) aX4_make_101 (by decide) ?_
      exact fin _ rfl
  have s52 : ∀ (h1 : mm_H), (∀ q, 32 ≤ q → q < 55 → ¬ (37 ≤ q ∧ q ≤ 40) → h1.2.2 q = h.2.2 q) → h1.2.2 37 = some (5, rg 40 (fu (fun j => .int (if j < sM S then (sA S j).1 else 0)) (sM S) (.int s))) → h1.2.2 38 = some (5, rg 40 (fu (fun j => .int (if j < sM S then (sA S j).2.1 else 0)) (sM S) (.int a))) → h1.2.2 39 = some (5, rg 40 (fu (fun j => .int (if j < sM S then (sA S j).2.2.1 else 0)) (sM S) (.int b))) → h1.2.2 40 = some (6, rg 40 (fu (fun j => .long (if j < sM S then (sA S j).2.2.2.1 else 0)) (sM S) (.long (p_act S s a b).2.2.2.1))) → fr AM h h1 →
      mW none (F + 1) mX4_make 52 [(4, .int (nI (sM S))), (0, .ref 32), (1, .int s), (2, .int a), (3, .int b)] [] h1 (fun r h' => r = none ∧ RM (p_make S s a b) P X h' ∧ fr AM h h') := fun h1 ho g37 g38 g39 g40 hf => by
    have g32 := (ho 32 (by decide) (by decide) (by decide)).trans m32
    have g41 := (ho 41 (by decide) (by decide) (by decide)).trans (hm 41 (by decide) (by decide))
    have g45 := (ho 45 (by decide) (by decide) (by decide)).trans (hm 45 (by decide) (by decide))
    have fin : ∀ y : Int32, y = oI (p_act S s a b).2.2.2.2.1 → mW none (F + 1) mX4_make 82 [(4, .int (nI (sM S))), (0, .ref 32), (1, .int s), (2, .int a), (3, .int b)] [.int y, .int (nI (sM S)), .ref 41] h1 (fun r h' => r = none ∧ RM (p_make S s a b) P X h' ∧ fr AM h h') := fun y hy => by
      subst hy
      refine w_iast (q := 83) (n := sM S) (vs' := _) aX4_make_82 (g41) (rfl) (by rw [rg_len]; omega) (by rw [rg_len]; omega) (rg_set _ _ _ _) rfl ?_
      exact s83 _ (fun q h1 h2 h3 => (up_n (by omega)).trans (ho q h1 h2 (by omega))) ((up_n (by decide)).trans g37) ((up_n (by decide)).trans g38) ((up_n (by decide)).trans g39) ((up_n (by decide)).trans g40) (up_s _ _ _) (hf.up (AM_l (by omega)))
    have e : (p_act S s a b).2.2.2.2.1 = if 8 ≤ s ∧ s ≤ 12 then sH S a.toNatClampNeg else none := rfl
    rw [e] at fin
    refine w_aload_n (q := 53) aX4_make_52 rfl rfl ?_
    refine w_get (q := 56) aX4_make_53 f_4_35 (g32) rfl rfl ?_
    refine w_iload (q := 58) aX4_make_56 rfl rfl ?_
    refine w_iload_n (q := 59) aX4_make_58 rfl rfl ?_
    refine w_i2l (q := 60) aX4_make_59 rfl ?_
    refine w_ldc (q := 63) aX4_make_60 l_4_100 rfl ?_
    refine w_ldc (q := 66) aX4_make_63 l_4_102 rfl ?_
    refine w_callS aX4_make_66 x_4_85 t_4_85 (rfl) (d_in) (fun r66 h66 hp => ?_)
    obtain ⟨rfl, rfl⟩ := hp
    refine w_if_eq (t := 81) (q := 72) aX4_make_69 (by decide) rfl (fun c69 => ?_) (fun c69 => ?_)
    · rw [if_neg (fun z => bz_eq0 c69 (in_8_12.mpr z))] at fin
      refine w_iconst (v := -1) (q := 82) aX4_make_81 rfl rfl ?_
      exact fin _ rfl
    · have hc := in_8_12.mp (bz_ne0 c69)
      rw [if_pos hc] at fin
      obtain ⟨j, hj, rfl⟩ := rN_of (by omega) (h8 hc.1 hc.2)
      rw [nI_clamp (by omega)] at fin
      refine w_aload_n (q := 73) aX4_make_72 rfl rfl ?_
      refine w_get (q := 76) aX4_make_73 f_4_47 (g32) rfl rfl ?_
      refine w_iload_n (q := 77) aX4_make_76 rfl rfl ?_
      refine w_iald (q := 78) aX4_make_77 (by decide) (g45) (mm_ix_at (n := j) rfl (by omega) (rg_at (by omega))) rfl ?_
      rw [if_pos hj]
      refine w_goto (t := 82) aX4_make_78 (by decide) ?_
      exact fin _ rfl
  refine w_aload_n (q := 1) aX4_make_0 rfl rfl ?_
  refine w_get (q := 4) aX4_make_1 f_4_81 (m32) rfl rfl ?_
  refine w_istore (q := 6) (ls' := [(4, _), (0, _), (1, _), (2, _), (3, _)]) aX4_make_4 (by decide) rfl rfl ?_
  refine w_aload_n (q := 7) aX4_make_6 rfl rfl ?_
  refine w_get (q := 10) aX4_make_7 f_4_23 (m32) rfl rfl ?_
  refine w_iload (q := 12) aX4_make_10 rfl rfl ?_
  refine w_iload_n (q := 13) aX4_make_12 rfl rfl ?_
  refine w_iast (q := 14) (n := sM S) (vs' := _) aX4_make_13 (hm 37 (by decide) (by decide)) (rfl) (by rw [rg_len]; omega) (by rw [rg_len]; omega) (rg_set _ _ _ _) rfl ?_
  refine w_aload_n (q := 15) aX4_make_14 rfl rfl ?_
  refine w_get (q := 18) aX4_make_15 f_4_26 (m32) rfl rfl ?_
  refine w_iload (q := 20) aX4_make_18 rfl rfl ?_
  refine w_iload_n (q := 21) aX4_make_20 rfl rfl ?_
  refine w_iast (q := 22) (n := sM S) (vs' := _) aX4_make_21 (hm 38 (by decide) (by decide)) (rfl) (by rw [rg_len]; omega) (by rw [rg_len]; omega) (rg_set _ _ _ _) rfl ?_
  refine w_aload_n (q := 23) aX4_make_22 rfl rfl ?_
  refine w_get (q := 26) aX4_make_23 f_4_29 (m32) rfl rfl ?_
  refine w_iload (q := 28) aX4_make_26 rfl rfl ?_
  refine w_iload_n (q := 29) aX4_make_28 rfl rfl ?_
  refine w_iast (q := 30) (n := sM S) (vs' := _) aX4_make_29 (hm 39 (by decide) (by decide)) (rfl) (by rw [rg_len]; omega) (by rw [rg_len]; omega) (rg_set _ _ _ _) rfl ?_
  refine w_aload_n (q := 31) aX4_make_30 rfl rfl ?_
  refine w_get (q := 34) aX4_make_31 f_4_32 (m32) rfl rfl ?_
  refine w_iload (q := 36) aX4_make_34 rfl rfl ?_
  refine w_iload_n (q := 37) aX4_make_36 rfl rfl ?_
  refine w_iconst (v := 2) (q := 38) aX4_make_37 rfl rfl ?_
  have fin : ∀ y : Int64, y = (p_act S s a b).2.2.2.1 → mW none (F + 1) mX4_make 51 [(4, .int (nI (sM S))), (0, .ref 32), (1, .int s), (2, .int a), (3, .int b)] [.long y, .int (nI (sM S)), .ref 40] (mm_up (mm_up (mm_up h 37 (5, rg 40 (fu (fun j => .int (if j < sM S then (sA S j).1 else 0)) (sM S) (.int s)))) 38 (5, rg 40 (fu (fun j => .int (if j < sM S then (sA S j).2.1 else 0)) (sM S) (.int a)))) 39 (5, rg 40 (fu (fun j => .int (if j < sM S then (sA S j).2.2.1 else 0)) (sM S) (.int b)))) (fun r h' => r = none ∧ RM (p_make S s a b) P X h' ∧ fr AM h h') := fun y hy => by
    subst hy
    refine w_last (q := 52) (n := sM S) (vs' := _) aX4_make_51 (hm 40 (by decide) (by decide)) (rfl) (by rw [rg_len]; omega) (by rw [rg_len]; omega) (rg_set _ _ _ _) rfl ?_
    exact s52 _ (fun q h1 h2 h3 => (up_n (by omega)).trans ((up_n (by omega)).trans ((up_n (by omega)).trans (up_n (by omega))))) rfl rfl rfl (up_s _ _ _) ((((fr.rf.up (AM_l (by omega))).up (AM_l (by omega))).up (AM_l (by omega))).up (AM_l (by omega)))
  have e : (p_act S s a b).2.2.2.1 = if s = 2 then sT S a.toNatClampNeg else 0 := rfl
  rw [e] at fin
  refine w_ic_ne (t := 50) (q := 41) aX4_make_38 (by decide) rfl (fun c38 => ?_) (fun c38 => ?_)
  · rw [if_neg c38] at fin
    refine w_lconst (v := 0) (q := 51) aX4_make_50 rfl rfl ?_
    exact fin _ rfl
  · rw [if_pos c38] at fin
    obtain ⟨j, hj, rfl⟩ := rN_of (by omega) (h2 c38)
    rw [nI_clamp (by omega)] at fin
    refine w_aload_n (q := 42) aX4_make_41 rfl rfl ?_
    refine w_get (q := 45) aX4_make_42 f_4_7 (m32) rfl rfl ?_
    refine w_iload_n (q := 46) aX4_make_45 rfl rfl ?_
    refine w_lald (q := 47) aX4_make_46 (hm 33 (by decide) (by decide)) (mm_ix_at (n := j) rfl (by omega) (rg_at hj)) rfl ?_
    refine w_goto (t := 51) aX4_make_47 (by decide) ?_
    exact fin _ rfl
