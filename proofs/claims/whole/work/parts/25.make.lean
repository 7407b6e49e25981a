theorem new_s (h : mm_H) (c : mm_C) : (mm_new h c).2.2 h.1 = some c := if_pos rfl
theorem new_n {h : mm_H} {b : Nat} {c : mm_C} (hn : ¬ b = h.1) : (mm_new h c).2.2 b = h.2.2 b := if_neg hn
theorem rf_nar {C : String} {o : Option Nat} : narrow (.object C) (va_rf o) = va_rf o := by cases o <;> rfl
theorem rf_fit {C : String} {o : Option Nat} : fits (.object C) (va_rf o) = true := by cases o <;> rfl
theorem rf_cat (o : Option Nat) : (va_rf o).category = 1 := by cases o <;> rfl
theorem c_actInit {F : Nat} {h : mm_H} {o : Nat} {s a b : Int32} {kp : Int64} {f1 f2 : Option Nat} (hc : h.2.2 o = some (0, [.int 0, .int 0, .int 0, .long 0, .null, .null, .int 0])) : mW none (F + 1) mX0_init 0 [(0, .ref o), (1, .int s), (2, .int a), (3, .int b), (4, .long kp), (6, va_rf f1), (7, va_rf f2)] [] h (fun r h' => r = none ∧ h'.2.2 o = some (0, [.int s, .int a, .int b, .long kp, va_rf f1, va_rf f2, .int 0]) ∧ fr (fun q => q = o) h h') := by
  refine w_aload_n (q := 1) aX0_init_0 rfl rfl ?_
  refine w_obj (q := 4) aX0_init_1 o_0_1 (by decide) rfl ?_
  refine w_aload_n (q := 5) aX0_init_4 rfl rfl ?_
  refine w_iload_n (q := 6) aX0_init_5 rfl rfl ?_
  refine w_put (q := 9) (fs' := [_, _, _, _, _, _, _]) aX0_init_6 f_0_7 (hc) (Nat.le_of_ble_eq_true rfl) rfl rfl (Or.inr ⟨rfl, rfl⟩) rfl rfl ?_
  refine w_aload_n (q := 10) aX0_init_9 rfl rfl ?_
  refine w_iload_n (q := 11) aX0_init_10 rfl rfl ?_
  refine w_put (q := 14) (fs' := [_, _, _, _, _, _, _]) aX0_init_11 f_0_13 (up_s _ _ _) (Nat.le_of_ble_eq_true rfl) rfl rfl (Or.inr ⟨rfl, rfl⟩) rfl rfl ?_
  refine w_aload_n (q := 15) aX0_init_14 rfl rfl ?_
  refine w_iload_n (q := 16) aX0_init_15 rfl rfl ?_
  refine w_put (q := 19) (fs' := [_, _, _, _, _, _, _]) aX0_init_16 f_0_16 (up_s _ _ _) (Nat.le_of_ble_eq_true rfl) rfl rfl (Or.inr ⟨rfl, rfl⟩) rfl rfl ?_
  refine w_aload_n (q := 20) aX0_init_19 rfl rfl ?_
  refine w_lload (q := 22) aX0_init_20 rfl rfl ?_
  refine w_put (q := 25) (fs' := [_, _, _, _, _, _, _]) aX0_init_22 f_0_19 (up_s _ _ _) (Nat.le_of_ble_eq_true rfl) rfl rfl (Or.inr ⟨rfl, rfl⟩) rfl rfl ?_
  refine w_aload_n (q := 26) aX0_init_25 rfl rfl ?_
  refine w_aloadQ (q := 28) aX0_init_26 rfl rfl ?_
  refine w_put (q := 31) (fs' := [_, _, _, _, _, _, _]) aX0_init_28 f_0_23 (up_s _ _ _) (Nat.le_of_ble_eq_true rfl) rf_nar rf_fit (Or.inr ⟨rfl, rfl⟩) rfl rfl ?_
  refine w_aload_n (q := 32) aX0_init_31 rfl rfl ?_
  refine w_aloadQ (q := 34) aX0_init_32 rfl rfl ?_
  refine w_put (q := 37) (fs' := [_, _, _, _, _, _, _]) aX0_init_34 f_0_27 (up_s _ _ _) (Nat.le_of_ble_eq_true rfl) rf_nar rf_fit (Or.inr ⟨rfl, rfl⟩) rfl rfl ?_
  refine w_vret aX0_init_37 rfl ?_
  exact ⟨rfl, up_s _ _ _, (((((fr.up (A := fun q => q = o) fr.rf rfl).up rfl).up rfl).up rfl).up rfl).up rfl⟩
def p_act (S : St) (s a b : Int32) : Act9 := (s, a, b, if s = 2 then sT S a.toNatClampNeg else 0, if 8 ≤ s ∧ s ≤ 12 then sH S a.toNatClampNeg else none, if s = 11 then sH S b.toNatClampNeg else none)
/-- a hearer more -/
def p_make (S : St) (s a b : Int32) : St := (sC S, sT S, sW S, sL S, sQ S, sM S + 1, fu (sA S) (sM S) (p_act S s a b), fu (sB S) (sM S) 0, fu (sH S) (sM S) (some (sM S)), sS S, sD S)
theorem RC.upNew {S : St} {h h' : mm_H} {s a b : Int32} (r : RC S h) (h1 : h'.2.2 1 = some (3, hoL (p_make S s a b))) (h7 : h'.2.2 7 = some (7, rg 40 (fu (fun j => va_rf (if j < sM S then some (aa j) else none)) (sM S) (.ref (aa (sM S)))))) (h8 : h'.2.2 8 = some (7, rg 40 (fu (fun j => va_rf ((sH S j).map aa)) (sM S) (.ref (aa (sM S)))))) (ho : h'.2.2 (aa (sM S)) = some (0, acL (p_act S s a b) 0)) (hf : ∀ q, ¬ (q = 1 ∨ q = 7 ∨ q = 8 ∨ q = aa (sM S)) → h'.2.2 q = h.2.2 q) : RC (p_make S s a b) h' := by
  have hak := aa_or (sM S)
  refine ⟨h1, (hf _ (by omega)).trans r.ta, (hf _ (by omega)).trans r.be, r.qu.kept (fun a ha => hf _ (by omega)), ?_, ?_, (hf _ (by omega)).trans r.ro, ?_, ?_, ?_⟩
  · rw [h7]
    refine congrArg (fun z => some (7, rg 40 z)) (funext fun j => ?_)
    show fu _ _ _ j = va_rf (if j < sM S + 1 then some (aa j) else none)
    by_cases e : j = sM S
    · subst e
      rw [fu_s, if_pos (by omega)]
      rfl
    · rw [fu_n e]
      by_cases e2 : j < sM S
      · rw [if_pos e2, if_pos (by omega)]
      · rw [if_neg e2, if_neg (by omega)]
  · rw [h8]
    exact congrArg (fun z => some (7, rg 40 z)) (fu_va (o := some (sM S)))
  · intro d hd
    obtain ⟨rr, g1, g2⟩ := r.rw hd
    exact ⟨rr, g1, (hf _ (by omega)).trans g2⟩
  · intro k hk
    obtain ⟨g, hg⟩ := r.bel hk
    exact ⟨g, hg.kept (hf _ (by omega)) (hf _ (by omega))⟩
  · intro k hk
    show h'.2.2 (aa k) = some (0, acL (fu (sA S) (sM S) (p_act S s a b) k) (fu (sB S) (sM S) 0 k))
    have hk2 : k < sM S + 1 := hk
    by_cases e : k = sM S
    · subst e
      rw [fu_s, fu_s]
      exact ho
    · rw [fu_n e, fu_n e]
      have hkk := aa_or k
      have hne : ¬ aa k = aa (sM S) := fun z => e (aa_inj z)
      exact (hf _ (by omega)).trans (r.ac (by omega))
theorem call7 {f1 f2 : Option Nat} {kp : Int64} {b a s : Int32} {o : Nat} : mm_call mX0_init (6 + 1) [va_rf f2, va_rf f1, .long kp, .int b, .int a, .int s, .ref o, .ref o] = some (.inr (.inl (mX0_init, [.ref o, .int s, .int a, .int b, .long kp, va_rf f1, va_rf f2], [.ref o]))) := by cases f1 <;> cases f2 <;> rfl
theorem lvA7 {f1 f2 : Option Nat} {kp : Int64} {b a s : Int32} {o : Nat} : lv_args 0 [.ref o, .int s, .int a, .int b, .long kp, va_rf f1, va_rf f2] = [(0, .ref o), (1, .int s), (2, .int a), (3, .int b), (4, .long kp), (6, va_rf f1), (7, va_rf f2)] := by cases f1 <;> cases f2 <;> rfl
/-- what makeHearer ends with -/
def mkP (S : St) (s a b : Int32) (h : mm_H) : Option Value → mm_H → Prop := fun r h' => r = some (.int (nI (sM S))) ∧ RC (p_make S s a b) h' ∧ h'.1 = h.1 + 1 ∧ h'.2.1 = h.2.1 + 7 ∧ ∀ q, ¬ AC q → h'.2.2 q = h.2.2 q
theorem c_makeHearer {F : Nat} {h : mm_H} {S : St} {s a b : Int32} (hM : sM S < 40) (ho : h.1 = aa (sM S)) (h2 : s = 2 → rN 8 a) (h8 : 8 ≤ s → s ≤ 12 → rN (sM S) a) (h11 : s = 11 → rN (sM S) b) (hR : RC S h) : mW none (F + 2) mX3_makeHearer 0 [(0, .ref 1), (1, .int s), (2, .int a), (3, .int b)] [] h (mkP S s a b h) := by
  have hak := aa_or (sM S)
  have k59 : mW none (F + 2) mX3_makeHearer 59 [(7, va_rf ((p_act S s a b).2.2.2.2.2.map aa)), (6, va_rf ((p_act S s a b).2.2.2.2.1.map aa)), (4, .long (p_act S s a b).2.2.2.1), (0, .ref 1), (1, .int s), (2, .int a), (3, .int b)] [] h (mkP S s a b h) := by
    refine w_new (q := 62) aX3_makeHearer_59 k_3_26 (by decide) rfl ?_
    refine w_dup (q := 63) aX3_makeHearer_62 rfl rfl ?_
    refine w_iload_n (q := 64) aX3_makeHearer_63 rfl rfl ?_
    refine w_iload_n (q := 65) aX3_makeHearer_64 rfl rfl ?_
    refine w_iload_n (q := 66) aX3_makeHearer_65 rfl rfl ?_
    refine w_lload (q := 68) aX3_makeHearer_66 rfl rfl ?_
    refine w_aloadQ (q := 70) aX3_makeHearer_68 rfl rfl ?_
    refine w_aloadQ (q := 72) aX3_makeHearer_70 rfl rfl ?_
    refine w_callI aX3_makeHearer_72 o_3_132 t_3_132 (by decide) (this_at (a := h.1) rfl (new_s _ _)) (call7) ((by rw [lvA7]; exact c_actInit (new_s _ _))) (fun r72 h72 hp => ?_)
    obtain ⟨rfl, hn, hf⟩ := hp
    have K : ∀ q, ¬ q = h.1 → h72.2.2 q = h.2.2 q := fun q hq => (hf.2.2 q hq).trans (new_n hq)
    refine w_astore (q := 77) (ls' := [(8, .ref h.1), (7, va_rf ((p_act S s a b).2.2.2.2.2.map aa)), (6, va_rf ((p_act S s a b).2.2.2.2.1.map aa)), (4, .long (p_act S s a b).2.2.2.1), (0, .ref 1), (1, .int s), (2, .int a), (3, .int b)]) aX3_makeHearer_75 (by decide) (by simp [mm_st1, rf_cat]) rfl ?_
    refine w_aload_n (q := 78) aX3_makeHearer_77 rfl rfl ?_
    refine w_get (q := 81) aX3_makeHearer_78 f_3_28 ((K 1 (by omega)).trans hR.ho) rfl rfl ?_
    refine w_aload_n (q := 82) aX3_makeHearer_81 rfl rfl ?_
    refine w_get (q := 85) aX3_makeHearer_82 f_3_61 ((K 1 (by omega)).trans hR.ho) rfl rfl ?_
    refine w_aload (q := 87) aX3_makeHearer_85 rfl rfl ?_
    refine w_aast (q := 88) (ci := 0) (n := sM S) aX3_makeHearer_87 ((K 7 (by omega)).trans hR.ow) (by decide) (by unfold mm_okv; dsimp only; rw [hn]; rfl) (rfl) (by rw [rg_len]; omega) (by rw [rg_len]; omega) (rg_set _ _ _ _) rfl ?_
    refine w_aload_n (q := 89) aX3_makeHearer_88 rfl rfl ?_
    refine w_get (q := 92) aX3_makeHearer_89 f_3_32 ((up_n (by decide)).trans ((K 1 (by omega)).trans hR.ho)) rfl rfl ?_
    refine w_aload_n (q := 93) aX3_makeHearer_92 rfl rfl ?_
    refine w_get (q := 96) aX3_makeHearer_93 f_3_61 ((up_n (by decide)).trans ((K 1 (by omega)).trans hR.ho)) rfl rfl ?_
    refine w_aload (q := 98) aX3_makeHearer_96 rfl rfl ?_
    refine w_aast (q := 99) (ci := 0) (n := sM S) aX3_makeHearer_98 ((up_n (by decide)).trans ((K 8 (by omega)).trans hR.ha)) (by decide) (by unfold mm_okv; dsimp only; rw [up_n (by omega), hn]; rfl) (rfl) (by rw [rg_len]; omega) (by rw [rg_len]; omega) (rg_set _ _ _ _) rfl ?_
    refine w_aload_n (q := 100) aX3_makeHearer_99 rfl rfl ?_
    refine w_dup (q := 101) aX3_makeHearer_100 rfl rfl ?_
    refine w_get (q := 104) aX3_makeHearer_101 f_3_61 ((up_n (by decide)).trans ((up_n (by decide)).trans ((K 1 (by omega)).trans hR.ho))) rfl rfl ?_
    refine w_dup_x1 (q := 105) aX3_makeHearer_104 ⟨rfl, rfl⟩ rfl ?_
    refine w_iconst (v := 1) (q := 106) aX3_makeHearer_105 rfl rfl ?_
    refine w_iadd (q := 107) aX3_makeHearer_106 rfl ?_
    refine w_put (q := 110) (fs' := [_, _, _, _, _, _, _, _, _, _, _, _, _, _, _, _, _]) aX3_makeHearer_107 f_3_61 ((up_n (by decide)).trans ((up_n (by decide)).trans ((K 1 (by omega)).trans hR.ho))) (Nat.le_of_ble_eq_true rfl) rfl rfl (Or.inl rfl) rfl rfl ?_
    refine w_iret aX3_makeHearer_110 rfl ?_
    refine ⟨rfl, hR.upNew ?_ ?_ ?_ ?_ ?_, hf.1, hf.2.1, ?_⟩
    · rw [up_s]
      show some (3, [Value.ref 2, .ref 3, .ref 4, .ref 7, .ref 8, .int (nI (sM S) + 1), .ref 9, .int (nI (sD S)), .int (nI (sS S)), .int (sC S 1), .int (sC S 2), .int (sC S 3), .int (sC S 4), .int (sC S 5), .int (sC S 6), .int (sC S 8), .int (sC S 9)]) = _
      rw [nI_1]
      rfl
    · rw [up_n (by decide), up_n (by decide), up_s, ho]
    · rw [up_n (by decide), up_s, ho]
    · rw [up_n (by omega), up_n (by omega), up_n (by omega), ← ho, hn]
      rfl
    · intro q hq
      rw [up_n (by omega), up_n (by omega), up_n (by omega)]
      exact K q (by omega)
    · intro q hq
      unfold AC at hq
      rw [up_n (by omega), up_n (by omega), up_n (by omega)]
      exact K q (by omega)
  have k41 : mW none (F + 2) mX3_makeHearer 41 [(6, va_rf ((p_act S s a b).2.2.2.2.1.map aa)), (4, .long (p_act S s a b).2.2.2.1), (0, .ref 1), (1, .int s), (2, .int a), (3, .int b)] [] h (mkP S s a b h) := by
    have e : (p_act S s a b).2.2.2.2.2 = if s = 11 then sH S b.toNatClampNeg else none := rfl
    rw [e] at k59
    refine w_iload_n (q := 42) aX3_makeHearer_41 rfl rfl ?_
    refine w_bipush (v := 11) (q := 44) aX3_makeHearer_42 rfl rfl ?_
    refine w_ic_ne (t := 56) (q := 47) aX3_makeHearer_44 (by decide) rfl (fun c44 => ?_) (fun c44 => ?_)
    · rw [if_neg c44] at k59
      refine w_null (q := 57) aX3_makeHearer_56 rfl ?_
      show mW none (F + 2) mX3_makeHearer 57 _ [va_rf ((none : Option Nat).map aa)] h _
      refine w_astoreQ (q := 59) (ls' := [(7, va_rf ((none : Option Nat).map aa)), (6, va_rf ((p_act S s a b).2.2.2.2.1.map aa)), (4, .long (p_act S s a b).2.2.2.1), (0, .ref 1), (1, .int s), (2, .int a), (3, .int b)]) aX3_makeHearer_57 (by decide) (by simp [mm_st1, rf_cat]) rfl ?_
      exact k59
    · rw [if_pos c44] at k59
      obtain ⟨j, hj, rfl⟩ := rN_of (by omega) (h11 c44)
      rw [nI_clamp (by omega)] at k59
      refine w_aload_n (q := 48) aX3_makeHearer_47 rfl rfl ?_
      refine w_get (q := 51) aX3_makeHearer_48 f_3_32 (hR.ho) rfl rfl ?_
      refine w_iload_n (q := 52) aX3_makeHearer_51 rfl rfl ?_
      refine w_aald (q := 53) aX3_makeHearer_52 (hR.ha) (by decide) (mm_ix_at (n := j) rfl (by omega) (rg_at (by omega))) rfl ?_
      refine w_goto (t := 57) aX3_makeHearer_53 (by decide) ?_
      refine w_astoreQ (q := 59) (ls' := [(7, va_rf ((sH S j).map aa)), (6, va_rf ((p_act S s a (nI j)).2.2.2.2.1.map aa)), (4, .long (p_act S s a (nI j)).2.2.2.1), (0, .ref 1), (1, .int s), (2, .int a), (3, .int (nI j))]) aX3_makeHearer_57 (by decide) (by simp [mm_st1, rf_cat]) rfl ?_
      exact k59
  have k17 : mW none (F + 2) mX3_makeHearer 17 [(4, .long (p_act S s a b).2.2.2.1), (0, .ref 1), (1, .int s), (2, .int a), (3, .int b)] [] h (mkP S s a b h) := by
    have e : (p_act S s a b).2.2.2.2.1 = if 8 ≤ s ∧ s ≤ 12 then sH S a.toNatClampNeg else none := rfl
    rw [e] at k41
    have none9 : ¬ (8 ≤ s ∧ s ≤ 12) → mW none (F + 2) mX3_makeHearer 38 [(4, .long (p_act S s a b).2.2.2.1), (0, .ref 1), (1, .int s), (2, .int a), (3, .int b)] [] h (mkP S s a b h) := fun hn => by
      rw [if_neg hn] at k41
      refine w_null (q := 39) aX3_makeHearer_38 rfl ?_
      show mW none (F + 2) mX3_makeHearer 39 _ [va_rf ((none : Option Nat).map aa)] h _
      refine w_astoreQ (q := 41) (ls' := [(6, _), (4, _), (0, _), (1, _), (2, _), (3, _)]) aX3_makeHearer_39 (by decide) rfl rfl ?_
      exact k41
    refine w_iload_n (q := 18) aX3_makeHearer_17 rfl rfl ?_
    refine w_bipush (v := 8) (q := 20) aX3_makeHearer_18 rfl rfl ?_
    refine w_ic_lt (t := 38) (q := 23) aX3_makeHearer_20 (by decide) rfl (fun c20 => ?_) (fun c20 => ?_)
    · exact none9 (fun z => k2_nlt z.1 c20)
    · refine w_iload_n (q := 24) aX3_makeHearer_23 rfl rfl ?_
      refine w_bipush (v := 12) (q := 26) aX3_makeHearer_24 rfl rfl ?_
      refine w_ic_gt (t := 38) (q := 29) aX3_makeHearer_26 (by decide) rfl (fun c26 => ?_) (fun c26 => ?_)
      · exact none9 (fun z => k2_nlt z.2 c26)
      · have hc : 8 ≤ s ∧ s ≤ 12 := ⟨k2_le c20, k2_le c26⟩
        rw [if_pos hc] at k41
        obtain ⟨j, hj, rfl⟩ := rN_of (by omega) (h8 hc.1 hc.2)
        rw [nI_clamp (by omega)] at k41
        refine w_aload_n (q := 30) aX3_makeHearer_29 rfl rfl ?_
        refine w_get (q := 33) aX3_makeHearer_30 f_3_32 (hR.ho) rfl rfl ?_
        refine w_iload_n (q := 34) aX3_makeHearer_33 rfl rfl ?_
        refine w_aald (q := 35) aX3_makeHearer_34 (hR.ha) (by decide) (mm_ix_at (n := j) rfl (by omega) (rg_at (by omega))) rfl ?_
        refine w_goto (t := 39) aX3_makeHearer_35 (by decide) ?_
        refine w_astoreQ (q := 41) (ls' := [(6, _), (4, _), (0, _), (1, _), (2, _), (3, _)]) aX3_makeHearer_39 (by decide) rfl rfl ?_
        exact k41
  have e : (p_act S s a b).2.2.2.1 = if s = 2 then sT S a.toNatClampNeg else 0 := rfl
  rw [e] at k17
  refine w_iload_n (q := 1) aX3_makeHearer_0 rfl rfl ?_
  refine w_iconst (v := 2) (q := 2) aX3_makeHearer_1 rfl rfl ?_
  refine w_ic_ne (t := 14) (q := 5) aX3_makeHearer_2 (by decide) rfl (fun c2 => ?_) (fun c2 => ?_)
  · rw [if_neg c2] at k17
    refine w_lconst (v := 0) (q := 15) aX3_makeHearer_14 rfl rfl ?_
    refine w_lstore (q := 17) (ls' := [(4, _), (0, _), (1, _), (2, _), (3, _)]) aX3_makeHearer_15 (by decide) rfl rfl ?_
    exact k17
  · rw [if_pos c2] at k17
    obtain ⟨j, hj, rfl⟩ := rN_of (by omega) (h2 c2)
    rw [nI_clamp (by omega)] at k17
    refine w_aload_n (q := 6) aX3_makeHearer_5 rfl rfl ?_
    refine w_get (q := 9) aX3_makeHearer_6 f_3_9 (hR.ho) rfl rfl ?_
    refine w_iload_n (q := 10) aX3_makeHearer_9 rfl rfl ?_
    refine w_lald (q := 11) aX3_makeHearer_10 (hR.ta) (mm_ix_at (n := j) rfl (by omega) (rg_at hj)) rfl ?_
    refine w_goto (t := 15) aX3_makeHearer_11 (by decide) ?_
    refine w_lstore (q := 17) (ls' := [(4, _), (0, _), (1, _), (2, _), (3, _)]) aX3_makeHearer_15 (by decide) rfl rfl ?_
    exact k17
