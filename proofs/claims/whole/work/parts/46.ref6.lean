theorem can_ref {m : Nat} {s a b : Int32} : p_can m s a b ↔ rN 15 s ∧ (s < 4 → rN 8 a) ∧ (s = 10 ∨ s = 12 → rN 8 b) ∧ (s = 5 ∨ s = 6 → rN 6 a) ∧ (s = 14 → rN 6 b) ∧ (8 ≤ s → rN m a) ∧ (s = 11 → rN m b) := by
  by_cases h : rN 15 s
  · have g : p_can m s a b ↔ (s < 4 → rN 8 a) ∧ (s = 10 ∨ s = 12 → rN 8 b) ∧ (s = 5 ∨ s = 6 → rN 6 a) ∧ (s = 14 → rN 6 b) ∧ (8 ≤ s → rN m a) ∧ (s = 11 → rN m b) := by
      obtain ⟨j, hj, rfl⟩ := rN_of (by omega) h
      have hcs : j = 0 ∨ j = 1 ∨ j = 2 ∨ j = 3 ∨ j = 4 ∨ j = 5 ∨ j = 6 ∨ j = 7 ∨ j = 8 ∨ j = 9 ∨ j = 10 ∨ j = 11 ∨ j = 12 ∨ j = 13 ∨ j = 14 := by omega
      rcases hcs with rfl | rfl | rfl | rfl | rfl | rfl | rfl | rfl | rfl | rfl | rfl | rfl | rfl | rfl | rfl
      · exact can_0.symm.trans ⟨fun q => ⟨fun _ => q, (fun z => absurd z (by decide)), (fun z => absurd z (by decide)), (fun z => absurd z (by decide)), (fun z => absurd z (by decide)), (fun z => absurd z (by decide))⟩, fun q => q.1 (by decide)⟩
      · exact can_1.symm.trans ⟨fun q => ⟨fun _ => q, (fun z => absurd z (by decide)), (fun z => absurd z (by decide)), (fun z => absurd z (by decide)), (fun z => absurd z (by decide)), (fun z => absurd z (by decide))⟩, fun q => q.1 (by decide)⟩
      · exact can_2'.symm.trans ⟨fun q => ⟨fun _ => q, (fun z => absurd z (by decide)), (fun z => absurd z (by decide)), (fun z => absurd z (by decide)), (fun z => absurd z (by decide)), (fun z => absurd z (by decide))⟩, fun q => q.1 (by decide)⟩
      · exact can_3.symm.trans ⟨fun q => ⟨fun _ => q, (fun z => absurd z (by decide)), (fun z => absurd z (by decide)), (fun z => absurd z (by decide)), (fun z => absurd z (by decide)), (fun z => absurd z (by decide))⟩, fun q => q.1 (by decide)⟩
      · exact ⟨fun q => ⟨(fun z => absurd z (by decide)), (fun z => absurd z (by decide)), (fun z => absurd z (by decide)), (fun z => absurd z (by decide)), (fun z => absurd z (by decide)), (fun z => absurd z (by decide))⟩, fun q => can_4⟩
      · exact can_5.symm.trans ⟨fun q => ⟨(fun z => absurd z (by decide)), (fun z => absurd z (by decide)), fun _ => q, (fun z => absurd z (by decide)), (fun z => absurd z (by decide)), (fun z => absurd z (by decide))⟩, fun q => q.2.2.1 (by decide)⟩
      · exact can_6.symm.trans ⟨fun q => ⟨(fun z => absurd z (by decide)), (fun z => absurd z (by decide)), fun _ => q, (fun z => absurd z (by decide)), (fun z => absurd z (by decide)), (fun z => absurd z (by decide))⟩, fun q => q.2.2.1 (by decide)⟩
      · exact ⟨fun q => ⟨(fun z => absurd z (by decide)), (fun z => absurd z (by decide)), (fun z => absurd z (by decide)), (fun z => absurd z (by decide)), (fun z => absurd z (by decide)), (fun z => absurd z (by decide))⟩, fun q => can_7⟩
      · exact can_8'.symm.trans ⟨fun q => ⟨(fun z => absurd z (by decide)), (fun z => absurd z (by decide)), (fun z => absurd z (by decide)), (fun z => absurd z (by decide)), fun _ => q, (fun z => absurd z (by decide))⟩, fun q => q.2.2.2.2.1 (by decide)⟩
      · exact can_9.symm.trans ⟨fun q => ⟨(fun z => absurd z (by decide)), (fun z => absurd z (by decide)), (fun z => absurd z (by decide)), (fun z => absurd z (by decide)), fun _ => q, (fun z => absurd z (by decide))⟩, fun q => q.2.2.2.2.1 (by decide)⟩
      · exact can_10.symm.trans ⟨fun q => ⟨(fun z => absurd z (by decide)), fun _ => q.2, (fun z => absurd z (by decide)), (fun z => absurd z (by decide)), fun _ => q.1, (fun z => absurd z (by decide))⟩, fun q => ⟨q.2.2.2.2.1 (by decide), q.2.1 (by decide)⟩⟩
      · exact can_11.symm.trans ⟨fun q => ⟨(fun z => absurd z (by decide)), (fun z => absurd z (by decide)), (fun z => absurd z (by decide)), (fun z => absurd z (by decide)), fun _ => q.1, fun _ => q.2⟩, fun q => ⟨q.2.2.2.2.1 (by decide), q.2.2.2.2.2 (by decide)⟩⟩
      · exact can_12.symm.trans ⟨fun q => ⟨(fun z => absurd z (by decide)), fun _ => q.2, (fun z => absurd z (by decide)), (fun z => absurd z (by decide)), fun _ => q.1, (fun z => absurd z (by decide))⟩, fun q => ⟨q.2.2.2.2.1 (by decide), q.2.1 (by decide)⟩⟩
      · exact can_13.symm.trans ⟨fun q => ⟨(fun z => absurd z (by decide)), (fun z => absurd z (by decide)), (fun z => absurd z (by decide)), (fun z => absurd z (by decide)), fun _ => q, (fun z => absurd z (by decide))⟩, fun q => q.2.2.2.2.1 (by decide)⟩
      · exact can_14.symm.trans ⟨fun q => ⟨(fun z => absurd z (by decide)), (fun z => absurd z (by decide)), (fun z => absurd z (by decide)), fun _ => q.2, fun _ => q.1, (fun z => absurd z (by decide))⟩, fun q => ⟨q.2.2.2.2.1 (by decide), q.2.2.2.1 (by decide)⟩⟩
    exact ⟨fun q => ⟨h, g.mp q⟩, fun q => g.mpr q.2⟩
  · exact ⟨fun q => absurd (can_in q) h, fun q => absurd q.1 h⟩
theorem d_hearer {F : Nat} {h : mm_H} {S : St} {P : List Fr} {X : Xs} {s a b : Int32} (hS : sM S ≤ 40) (hR : RM S P X h) : mW none (F + 2) mX4_hearer 0 [(0, .ref 32), (1, .int s), (2, .int a), (3, .int b)] [] h (mP (p_hearer S s a b) P X h) := by
  have hR0 := hR
  obtain ⟨w, hm, r1, r2, r3, r4⟩ := hR
  have m32 := hm 32 (by decide) (by decide)
  unfold p_hearer
  have t114 : p_can (sM S) s a b → mW none (F + 2) mX4_hearer 114 [(0, .ref 32), (1, .int s), (2, .int a), (3, .int b)] [] h (mP (if p_can (sM S) s a b then (if 40 ≤ sM S then (-3, S) else (nI (sM S), p_make S s a b)) else (-2, S)) P X h) := fun hc => by
    rw [if_pos hc]
    refine w_aload_n (q := 115) aX4_hearer_114 rfl rfl ?_
    refine w_get (q := 118) aX4_hearer_115 f_4_81 (m32) rfl rfl ?_
    refine w_bipush (v := 40) (q := 120) aX4_hearer_118 rfl rfl ?_
    refine w_ic_ne (t := 126) (q := 123) aX4_hearer_120 (by decide) rfl (fun c120 => ?_) (fun c120 => ?_)
    · have hlt : sM S < 40 := Nat.lt_of_le_of_ne hS (fun z => c120 (by rw [z]; rfl))
      rw [if_neg (by omega)]
      refine w_aload_n (q := 127) aX4_hearer_126 rfl rfl ?_
      refine w_iload_n (q := 128) aX4_hearer_127 rfl rfl ?_
      refine w_iload_n (q := 129) aX4_hearer_128 rfl rfl ?_
      refine w_iload_n (q := 130) aX4_hearer_129 rfl rfl ?_
      refine w_callV aX4_hearer_130 t_4_77 (this_at rfl m32) (rfl) (d_make hlt (fun e => by subst e; exact can_2 hc) (can_8 hc) (fun e => by subst e; exact (can_11.mpr hc).2) hR0) (fun r130 h130 hp => ?_)
      obtain ⟨rfl, hR2, g3⟩ := hp
      obtain ⟨w2, hm2, hr2⟩ := hR2
      refine w_aload_n (q := 134) aX4_hearer_133 rfl rfl ?_
      refine w_get (q := 137) aX4_hearer_134 f_4_81 (hm2 32 (by decide) (by decide)) rfl rfl ?_
      refine w_iconst (v := 1) (q := 138) aX4_hearer_137 rfl rfl ?_
      refine w_isub (q := 139) aX4_hearer_138 rfl ?_
      refine w_iret aX4_hearer_139 rfl ?_
      refine ⟨?_, ⟨w2, hm2, hr2⟩, g3⟩
      show some (Value.int (nI (sM S + 1) - 1)) = _
      rw [nI_pred]
    · have hge : sM S = 40 := (nI_iff (b := 40) (by omega) (by omega)).mp c120
      rw [if_pos (by omega)]
      refine w_bipush (v := -3) (q := 125) aX4_hearer_123 rfl rfl ?_
      refine w_iret aX4_hearer_125 rfl ?_
      exact ⟨rfl, hR0, fr.rf⟩
  have b46 : ¬ p_can (sM S) s a b → mW none (F + 2) mX4_hearer 46 [(0, .ref 32), (1, .int s), (2, .int a), (3, .int b)] [] h (mP (if p_can (sM S) s a b then (if 40 ≤ sM S then (-3, S) else (nI (sM S), p_make S s a b)) else (-2, S)) P X h) := fun hc => by
    rw [if_neg hc]
    refine w_bipush (v := -2) (q := 48) aX4_hearer_46 rfl rfl ?_
    refine w_iret aX4_hearer_48 rfl ?_
    exact ⟨rfl, hR0, fr.rf⟩
  have b80 : ¬ p_can (sM S) s a b → mW none (F + 2) mX4_hearer 80 [(0, .ref 32), (1, .int s), (2, .int a), (3, .int b)] [] h (mP (if p_can (sM S) s a b then (if 40 ≤ sM S then (-3, S) else (nI (sM S), p_make S s a b)) else (-2, S)) P X h) := fun hc => by
    rw [if_neg hc]
    refine w_bipush (v := -2) (q := 82) aX4_hearer_80 rfl rfl ?_
    refine w_iret aX4_hearer_82 rfl ?_
    exact ⟨rfl, hR0, fr.rf⟩
  have b111 : ¬ p_can (sM S) s a b → mW none (F + 2) mX4_hearer 111 [(0, .ref 32), (1, .int s), (2, .int a), (3, .int b)] [] h (mP (if p_can (sM S) s a b then (if 40 ≤ sM S then (-3, S) else (nI (sM S), p_make S s a b)) else (-2, S)) P X h) := fun hc => by
    rw [if_neg hc]
    refine w_bipush (v := -2) (q := 113) aX4_hearer_111 rfl rfl ?_
    refine w_iret aX4_hearer_113 rfl ?_
    exact ⟨rfl, hR0, fr.rf⟩
  have t97 : rN 15 s ∧ (s < 4 → rN 8 a) ∧ (s = 10 ∨ s = 12 → rN 8 b) ∧ (s = 5 ∨ s = 6 → rN 6 a) ∧ (s = 14 → rN 6 b) ∧ (8 ≤ s → rN (sM S) a) → mW none (F + 2) mX4_hearer 97 [(0, .ref 32), (1, .int s), (2, .int a), (3, .int b)] [] h (mP (if p_can (sM S) s a b then (if 40 ≤ sM S then (-3, S) else (nI (sM S), p_make S s a b)) else (-2, S)) P X h) := fun hc => by
    refine w_iload_n (q := 98) aX4_hearer_97 rfl rfl ?_
    refine w_bipush (v := 11) (q := 100) aX4_hearer_98 rfl rfl ?_
    refine w_ic_ne (t := 114) (q := 103) aX4_hearer_100 (by decide) rfl (fun c100 => ?_) (fun c100 => ?_)
    · exact t114 (can_ref.mpr ⟨hc.1, hc.2.1, hc.2.2.1, hc.2.2.2.1, hc.2.2.2.2.1, hc.2.2.2.2.2, fun z => absurd z c100⟩)
    · refine w_aload_n (q := 104) aX4_hearer_103 rfl rfl ?_
      refine w_iload_n (q := 105) aX4_hearer_104 rfl rfl ?_
      refine w_callV aX4_hearer_105 t_4_106 (this_at rfl m32) (rfl) (d_isHearer hS hm) (fun r105 h105 hp => ?_)
      obtain ⟨rfl, rfl⟩ := hp
      refine w_if_ne (t := 114) (q := 111) aX4_hearer_108 (by decide) rfl (fun c108 => ?_) (fun c108 => ?_)
      · exact t114 (can_ref.mpr ⟨hc.1, hc.2.1, hc.2.2.1, hc.2.2.2.1, hc.2.2.2.2.1, hc.2.2.2.2.2, fun _ => bz_ne0 c108⟩)
      · exact b111 (fun z => bz_eq0 c108 ((can_ref.mp z).2.2.2.2.2.2 c100))
  have t83 : rN 15 s ∧ (s < 4 → rN 8 a) ∧ (s = 10 ∨ s = 12 → rN 8 b) ∧ (s = 5 ∨ s = 6 → rN 6 a) ∧ (s = 14 → rN 6 b) → mW none (F + 2) mX4_hearer 83 [(0, .ref 32), (1, .int s), (2, .int a), (3, .int b)] [] h (mP (if p_can (sM S) s a b then (if 40 ≤ sM S then (-3, S) else (nI (sM S), p_make S s a b)) else (-2, S)) P X h) := fun hc => by
    refine w_iload_n (q := 84) aX4_hearer_83 rfl rfl ?_
    refine w_bipush (v := 8) (q := 86) aX4_hearer_84 rfl rfl ?_
    refine w_ic_lt (t := 97) (q := 89) aX4_hearer_86 (by decide) rfl (fun c86 => ?_) (fun c86 => ?_)
    · exact t97 ⟨hc.1, hc.2.1, hc.2.2.1, hc.2.2.2.1, hc.2.2.2.2, fun z => absurd z (Int32.not_le.mpr c86)⟩
    · refine w_aload_n (q := 90) aX4_hearer_89 rfl rfl ?_
      refine w_iload_n (q := 91) aX4_hearer_90 rfl rfl ?_
      refine w_callV aX4_hearer_91 t_4_106 (this_at rfl m32) (rfl) (d_isHearer hS hm) (fun r91 h91 hp => ?_)
      obtain ⟨rfl, rfl⟩ := hp
      refine w_if_eq (t := 111) (q := 97) aX4_hearer_94 (by decide) rfl (fun c94 => ?_) (fun c94 => ?_)
      · exact b111 (fun z => bz_eq0 c94 ((can_ref.mp z).2.2.2.2.2.1 (Int32.not_lt.mp c86)))
      · exact t97 ⟨hc.1, hc.2.1, hc.2.2.1, hc.2.2.2.1, hc.2.2.2.2, fun z => bz_ne0 c94⟩
  have t67 : rN 15 s ∧ (s < 4 → rN 8 a) ∧ (s = 10 ∨ s = 12 → rN 8 b) ∧ (s = 5 ∨ s = 6 → rN 6 a) → mW none (F + 2) mX4_hearer 67 [(0, .ref 32), (1, .int s), (2, .int a), (3, .int b)] [] h (mP (if p_can (sM S) s a b then (if 40 ≤ sM S then (-3, S) else (nI (sM S), p_make S s a b)) else (-2, S)) P X h) := fun hc => by
    refine w_iload_n (q := 68) aX4_hearer_67 rfl rfl ?_
    refine w_bipush (v := 14) (q := 70) aX4_hearer_68 rfl rfl ?_
    refine w_ic_ne (t := 83) (q := 73) aX4_hearer_70 (by decide) rfl (fun c70 => ?_) (fun c70 => ?_)
    · exact t83 ⟨hc.1, hc.2.1, hc.2.2.1, hc.2.2.2, fun z => absurd z c70⟩
    · refine w_iload_n (q := 74) aX4_hearer_73 rfl rfl ?_
      refine w_callS aX4_hearer_74 x_4_97 t_4_97 (rfl) (d_isBell) (fun r74 h74 hp => ?_)
      obtain ⟨rfl, rfl⟩ := hp
      refine w_if_ne (t := 83) (q := 80) aX4_hearer_77 (by decide) rfl (fun c77 => ?_) (fun c77 => ?_)
      · exact t83 ⟨hc.1, hc.2.1, hc.2.2.1, hc.2.2.2, fun z => bz_ne0 c77⟩
      · exact b80 (fun z => bz_eq0 c77 ((can_ref.mp z).2.2.2.2.1 c70))
  have t60 : s = 5 ∨ s = 6 → rN 15 s ∧ (s < 4 → rN 8 a) ∧ (s = 10 ∨ s = 12 → rN 8 b) → mW none (F + 2) mX4_hearer 60 [(0, .ref 32), (1, .int s), (2, .int a), (3, .int b)] [] h (mP (if p_can (sM S) s a b then (if 40 ≤ sM S then (-3, S) else (nI (sM S), p_make S s a b)) else (-2, S)) P X h) := fun hs hc => by
    refine w_iload_n (q := 61) aX4_hearer_60 rfl rfl ?_
    refine w_callS aX4_hearer_61 x_4_97 t_4_97 (rfl) (d_isBell) (fun r61 h61 hp => ?_)
    obtain ⟨rfl, rfl⟩ := hp
    refine w_if_eq (t := 80) (q := 67) aX4_hearer_64 (by decide) rfl (fun c64 => ?_) (fun c64 => ?_)
    · exact b80 (fun z => bz_eq0 c64 ((can_ref.mp z).2.2.2.1 hs))
    · exact t67 ⟨hc.1, hc.2.1, hc.2.2, fun z => bz_ne0 c64⟩
  have t49 : rN 15 s ∧ (s < 4 → rN 8 a) ∧ (s = 10 ∨ s = 12 → rN 8 b) → mW none (F + 2) mX4_hearer 49 [(0, .ref 32), (1, .int s), (2, .int a), (3, .int b)] [] h (mP (if p_can (sM S) s a b then (if 40 ≤ sM S then (-3, S) else (nI (sM S), p_make S s a b)) else (-2, S)) P X h) := fun hc => by
    refine w_iload_n (q := 50) aX4_hearer_49 rfl rfl ?_
    refine w_iconst (v := 5) (q := 51) aX4_hearer_50 rfl rfl ?_
    refine w_ic_eq (t := 60) (q := 54) aX4_hearer_51 (by decide) rfl (fun c51 => ?_) (fun c51 => ?_)
    · exact t60 (Or.inl c51) hc
    · refine w_iload_n (q := 55) aX4_hearer_54 rfl rfl ?_
      refine w_bipush (v := 6) (q := 57) aX4_hearer_55 rfl rfl ?_
      refine w_ic_ne (t := 67) (q := 60) aX4_hearer_57 (by decide) rfl (fun c57 => ?_) (fun c57 => ?_)
      · exact t67 ⟨hc.1, hc.2.1, hc.2.2, fun z => z.elim (fun y => absurd y c51) (fun y => absurd y c57)⟩
      · exact t60 (Or.inr c57) hc
  have t39 : s = 10 ∨ s = 12 → rN 15 s ∧ (s < 4 → rN 8 a) → mW none (F + 2) mX4_hearer 39 [(0, .ref 32), (1, .int s), (2, .int a), (3, .int b)] [] h (mP (if p_can (sM S) s a b then (if 40 ≤ sM S then (-3, S) else (nI (sM S), p_make S s a b)) else (-2, S)) P X h) := fun hs hc => by
    refine w_iload_n (q := 40) aX4_hearer_39 rfl rfl ?_
    refine w_callS aX4_hearer_40 x_4_93 t_4_93 (rfl) (d_isTally) (fun r40 h40 hp => ?_)
    obtain ⟨rfl, rfl⟩ := hp
    refine w_if_ne (t := 49) (q := 46) aX4_hearer_43 (by decide) rfl (fun c43 => ?_) (fun c43 => ?_)
    · exact t49 ⟨hc.1, hc.2, fun z => bz_ne0 c43⟩
    · exact b46 (fun z => bz_eq0 c43 ((can_ref.mp z).2.2.1 hs))
  have t27 : rN 15 s ∧ (s < 4 → rN 8 a) → mW none (F + 2) mX4_hearer 27 [(0, .ref 32), (1, .int s), (2, .int a), (3, .int b)] [] h (mP (if p_can (sM S) s a b then (if 40 ≤ sM S then (-3, S) else (nI (sM S), p_make S s a b)) else (-2, S)) P X h) := fun hc => by
    refine w_iload_n (q := 28) aX4_hearer_27 rfl rfl ?_
    refine w_bipush (v := 10) (q := 30) aX4_hearer_28 rfl rfl ?_
    refine w_ic_eq (t := 39) (q := 33) aX4_hearer_30 (by decide) rfl (fun c30 => ?_) (fun c30 => ?_)
    · exact t39 (Or.inl c30) hc
    · refine w_iload_n (q := 34) aX4_hearer_33 rfl rfl ?_
      refine w_bipush (v := 12) (q := 36) aX4_hearer_34 rfl rfl ?_
      refine w_ic_ne (t := 49) (q := 39) aX4_hearer_36 (by decide) rfl (fun c36 => ?_) (fun c36 => ?_)
      · exact t49 ⟨hc.1, hc.2, fun z => z.elim (fun y => absurd y c30) (fun y => absurd y c36)⟩
      · exact t39 (Or.inr c36) hc
  refine w_iload_n (q := 1) aX4_hearer_0 rfl rfl ?_
  refine w_i2l (q := 2) aX4_hearer_1 rfl ?_
  refine w_lconst (v := 0) (q := 3) aX4_hearer_2 rfl rfl ?_
  refine w_ldc (q := 6) aX4_hearer_3 l_4_104 rfl ?_
  refine w_callS aX4_hearer_6 x_4_85 t_4_85 (rfl) (d_in) (fun r6 h6 hp => ?_)
  obtain ⟨rfl, rfl⟩ := hp
  have e15 : (¬ s.toInt64 < 0 ∧ s.toInt64 ≤ 14) ↔ rN 15 s := in_rN (n := 15) (by omega) (by decide)
  refine w_if_ne (t := 15) (q := 12) aX4_hearer_9 (by decide) rfl (fun c9 => ?_) (fun c9 => ?_)
  · have h15 := e15.mp (bz_ne0 c9)
    refine w_iload_n (q := 16) aX4_hearer_15 rfl rfl ?_
    refine w_iconst (v := 4) (q := 17) aX4_hearer_16 rfl rfl ?_
    refine w_ic_ge (t := 27) (q := 20) aX4_hearer_17 (by decide) rfl (fun c17 => ?_) (fun c17 => ?_)
    · exact t27 ⟨h15, fun z => absurd z (Int32.not_lt.mpr c17)⟩
    · refine w_iload_n (q := 21) aX4_hearer_20 rfl rfl ?_
      refine w_callS aX4_hearer_21 x_4_93 t_4_93 (rfl) (d_isTally) (fun r21 h21 hp => ?_)
      obtain ⟨rfl, rfl⟩ := hp
      refine w_if_eq (t := 46) (q := 27) aX4_hearer_24 (by decide) rfl (fun c24 => ?_) (fun c24 => ?_)
      · exact b46 (fun z => bz_eq0 c24 ((can_ref.mp z).2.1 (Int32.not_le.mp c17)))
      · exact t27 ⟨h15, fun _ => bz_ne0 c24⟩
  · rw [if_neg (fun z => bz_eq0 c9 (e15.mpr (can_ref.mp z).1))]
    refine w_bipush (v := -2) (q := 14) aX4_hearer_12 rfl rfl ?_
    refine w_iret aX4_hearer_14 rfl ?_
    exact ⟨rfl, hR0, fr.rf⟩
