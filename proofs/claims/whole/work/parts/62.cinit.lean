/-- a bell under making -/
theorem c_bellInit {F : Nat} {h : mm_H} {b a : Nat} (ha : h.1 = a) (hb : b < a) (hc : h.2.2 b = some (1, [.null, .int 0, .int 0])) : mW none (F + 1) mX1_init 0 [(0, .ref b)] [] h (fun r h' => r = none ∧ h'.1 = a + 1 ∧ h'.2.1 = h.2.1 + 12 ∧ h'.2.2 b = some (1, [.ref a, .int 0, .int 0]) ∧ h'.2.2 a = some (5, rg 12 (fun _ => .int 0)) ∧ ∀ q, ¬ q = b → ¬ q = a → h'.2.2 q = h.2.2 q) := by
  refine w_aload_n (q := 1) aX1_init_0 rfl rfl ?_
  refine w_obj (q := 4) aX1_init_1 o_1_3 (by decide) rfl ?_
  refine w_aload_n (q := 5) aX1_init_4 rfl rfl ?_
  refine w_bipush (v := 12) (q := 7) aX1_init_5 rfl rfl ?_
  refine mW.step aX1_init_7 (x_newI (N := 12) (by omega)) ?_
  rw [ha]
  refine w_put (q := 12) (fs' := [_, _, _]) aX1_init_9 f_1_9 ((new_n (by omega)).trans hc) (Nat.le_of_ble_eq_true rfl) rfl rfl (Or.inr ⟨rfl, rfl⟩) rfl rfl ?_
  refine w_aload_n (q := 13) aX1_init_12 rfl rfl ?_
  refine w_iconst (v := 0) (q := 14) aX1_init_13 rfl rfl ?_
  refine w_put (q := 17) (fs' := [_, _, _]) aX1_init_14 f_1_15 (up_s _ _ _) (Nat.le_of_ble_eq_true rfl) rfl rfl (Or.inl rfl) rfl rfl ?_
  refine w_vret aX1_init_17 rfl ?_
  refine ⟨rfl, congrArg (· + 1) ha, rfl, up_s _ _ _, (up_n (by omega)).trans ((up_n (by omega)).trans ?_), fun q h1 h2 => (up_n h1).trans ((up_n h1).trans (new_n (by omega)))⟩
  rw [← ha]
  exact new_s _ _
/-- the queue under making -/
theorem c_queueInit {F : Nat} {h : mm_H} {b a : Nat} (ha : h.1 = a) (hb : b < a) (hc : h.2.2 b = some (2, [.null, .null, .int 0, .int 0])) : mW none (F + 1) mX2_init 0 [(0, .ref b)] [] h (fun r h' => r = none ∧ h'.1 = a + 2 ∧ h'.2.1 = h.2.1 + 40 ∧ h'.2.2 b = some (2, [.ref a, .ref (a + 1), .int 0, .int 0]) ∧ h'.2.2 a = some (5, rg 20 (fun _ => .int 0)) ∧ h'.2.2 (a + 1) = some (6, rg 20 (fun _ => .long 0)) ∧ ∀ q, ¬ q = b → ¬ q = a → ¬ q = a + 1 → h'.2.2 q = h.2.2 q) := by
  have H0 : Al b 2 a a [.null, .null, .int 0, .int 0] (fun q => if q = a then (5, rg 20 (fun _ => .int 0)) else (6, rg 20 (fun _ => .long 0))) h h.2.1 h := ⟨ha, hc, fun q h1 h2 => by omega, fun q _ => rfl, Nat.le_refl _⟩
  refine w_aload_n (q := 1) aX2_init_0 rfl rfl ?_
  refine w_obj (q := 4) aX2_init_1 o_2_3 (by decide) rfl ?_
  refine w_aload_n (q := 5) aX2_init_4 rfl rfl ?_
  refine w_bipush (v := 20) (q := 7) aX2_init_5 rfl rfl ?_
  refine mW.step aX2_init_7 (x_newI (N := 20) (by omega)) ?_
  rw [ha]
  refine w_put (q := 12) (fs' := [_, _, _, _]) aX2_init_9 f_2_9 ((new_n (by omega)).trans hc) (Nat.le_of_ble_eq_true rfl) rfl rfl (Or.inr ⟨rfl, rfl⟩) rfl rfl ?_
  refine w_aload_n (q := 13) aX2_init_12 rfl rfl ?_
  refine w_bipush (v := 20) (q := 15) aX2_init_13 rfl rfl ?_
  refine mW.step aX2_init_15 (x_newL (N := 20) (by omega)) ?_
  rw [show (mm_up (mm_new h (5, rg 20 (fun _ => .int 0))) b (2, [.ref a, .null, .int 0, .int 0])).1 = a + 1 from congrArg (· + 1) ha]
  refine w_put (q := 20) (fs' := [_, _, _, _]) aX2_init_17 f_2_15 ((new_n (by show ¬ b = h.1 + 1; omega)).trans (up_s _ _ _)) (Nat.le_of_ble_eq_true rfl) rfl rfl (Or.inr ⟨rfl, rfl⟩) rfl rfl ?_
  refine w_vret aX2_init_20 rfl ?_
  refine ⟨rfl, by show h.1 + 1 + 1 = a + 2; omega, rfl, up_s _ _ _, (up_n (by omega)).trans ((new_n (by show ¬ a = h.1 + 1; omega)).trans ((up_n (by omega)).trans ?_)), (up_n (by omega)).trans ?_, fun q h1 h2 h3 => (up_n h1).trans ((new_n (by show ¬ q = h.1 + 1; omega)).trans ((up_n h1).trans (new_n (by omega))))⟩
  · rw [← ha]
    exact new_s _ _
  · rw [show a + 1 = (mm_up (mm_new h (5, rg 20 (fun _ => .int 0))) b (2, [.ref a, .null, .int 0, .int 0])).1 from congrArg (· + 1) ha.symm]
    exact new_s _ _
/-- the class's cells at its making, with i bells -/
def z3 (i q : Nat) : mm_C :=
  if q = 2 then (6, rg 8 (fun _ => .long 0)) else if q = 3 then (8, rg 6 (fun j => if j < i then .ref (18 + 2 * j) else .null)) else if q = 4 then (2, [.ref 5, .ref 6, .int 0, .int 0]) else if q = 5 then (5, rg 20 (fun _ => .int 0)) else if q = 6 then (6, rg 20 (fun _ => .long 0)) else if q = 7 then (7, rg 40 (fun _ => .null)) else if q = 8 then (7, rg 40 (fun _ => .null)) else if q = 9 then (9, rg 8 (fun j => .ref (10 + j))) else if q < 18 then (5, rg 12 (fun _ => .int 0)) else if q % 2 = 0 then (1, [.ref (q + 1), .int 0, .int 0]) else (5, rg 12 (fun _ => .int 0))
theorem z3_hi {i q : Nat} (h : 18 ≤ q) : z3 i q = if q % 2 = 0 then (1, [.ref (q + 1), .int 0, .int 0]) else (5, rg 12 (fun _ => .int 0)) := by
  unfold z3
  rw [if_neg (by omega), if_neg (by omega), if_neg (by omega), if_neg (by omega), if_neg (by omega), if_neg (by omega), if_neg (by omega), if_neg (by omega), if_neg (by omega)]
theorem z3_mid {i q : Nat} (h : 10 ≤ q) (h2 : q < 18) : z3 i q = (5, rg 12 (fun _ => .int 0)) := by
  unfold z3
  rw [if_neg (by omega), if_neg (by omega), if_neg (by omega), if_neg (by omega), if_neg (by omega), if_neg (by omega), if_neg (by omega), if_neg (by omega), if_pos h2]
theorem z3_i {i i' q : Nat} (h : ¬ q = 3) : z3 i q = z3 i' q := by
  unfold z3
  rw [if_neg h, if_neg h]

theorem l_bells {F sl : Nat} {h0 : mm_H} {P : Option Value → mm_H → Prop} (k : ∀ h, Al 1 3 2 30 [.ref 2, .ref 3, .ref 4, .ref 7, .ref 8, .int 0, .ref 9, .int 0, .int 0, .int 0, .int 0, .int 0, .int 0, .int 0, .int 0, .int 0, .int 0] (z3 6) h0 (sl + 90) h → mW none (F + 3) mX3_init 89 [(1, .int 6), (0, .ref 1)] [] h P) : ∀ (m i : Nat) (h : mm_H), m + i = 6 → Al 1 3 2 (18 + 2 * i) [.ref 2, .ref 3, .ref 4, .ref 7, .ref 8, .int 0, .ref 9, .int 0, .int 0, .int 0, .int 0, .int 0, .int 0, .int 0, .int 0, .int 0, .int 0] (z3 i) h0 (sl + 15 * i) h → mW none (F + 3) mX3_init 64 [(1, .int (nI i)), (0, .ref 1)] [] h P := by
  intro m
  induction m with
  | zero =>
    intro i h hi H
    obtain rfl : i = 6 := by omega
    refine w_iload_n (q := 65) aX3_init_64 rfl rfl ?_
    refine w_bipush (v := 6) (q := 67) aX3_init_65 rfl rfl ?_
    refine w_ic_ge (t := 89) (q := 70) aX3_init_67 (by decide) rfl (fun c67 => ?_) (fun c67 => ?_)
    · exact k h H
    · exact absurd (by decide) c67
  | succ m ih =>
    intro i h hi H
    refine w_iload_n (q := 65) aX3_init_64 rfl rfl ?_
    refine w_bipush (v := 6) (q := 67) aX3_init_65 rfl rfl ?_
    refine w_ic_ge (t := 89) (q := 70) aX3_init_67 (by decide) rfl (fun c67 => ?_) (fun c67 => ?_)
    · exact absurd c67 (nI_ge (b := 6) (by omega) (by omega))
    · obtain ⟨e1, e2, e3, e4, e5⟩ := H
      have e33 : h.2.2 3 = some (8, rg 6 (fun j => if j < i then .ref (18 + 2 * j) else .null)) := e3 3 (by omega) (by omega)
      refine w_aload_n (q := 71) aX3_init_70 rfl rfl ?_
      refine w_get (q := 74) aX3_init_71 f_3_15 (e2) rfl rfl ?_
      refine w_iload_n (q := 75) aX3_init_74 rfl rfl ?_
      refine w_new (q := 78) aX3_init_75 k_3_13 (by decide) rfl ?_
      rw [e1]
      refine w_dup (q := 79) aX3_init_78 rfl rfl ?_
      have hb : (mm_new h (1, mm_df 1)).2.2 (18 + 2 * i) = some (1, [.null, .int 0, .int 0]) := by
        rw [← e1]
        exact new_s _ _
      refine w_callI aX3_init_79 o_3_40 t_3_40 (by decide) (this_at rfl hb) (rfl) (c_bellInit (a := 19 + 2 * i) (b := 18 + 2 * i) (by show h.1 + 1 = 19 + 2 * i; omega) (by omega) hb) (fun r79 h79 hp => ?_)
      obtain ⟨rfl, g1, g2, g3, g4, g5⟩ := hp
      have g33 : h79.2.2 3 = some (8, rg 6 (fun j => if j < i then .ref (18 + 2 * j) else .null)) := (g5 3 (by omega) (by omega)).trans ((new_n (by omega)).trans e33)
      have hok : mm_okv h79 1 (.ref (18 + 2 * i)) = true := by
        simp only [mm_okv, g3]
        rfl
      refine w_aast (q := 83) (ci := 1) (n := i) aX3_init_82 (g33) (by decide) (hok) (rfl) (by rw [rg_len]; omega) (by rw [rg_len]; omega) (rg_set _ _ _ _) rfl ?_
      refine w_iinc (q := 86) (ls' := [(1, _), (0, _)]) aX3_init_83 rfl rfl (by decide) rfl rfl ?_
      refine w_goto (t := 64) aX3_init_86 (by decide) ?_
      rw [show nI i + Int32.ofInt 1 = nI (i + 1) from nI_1 i]
      refine ih (i + 1) _ (by omega) ⟨by show h79.1 = 18 + 2 * (i + 1); rw [g1]; omega, (up_n (by decide)).trans ((g5 1 (by omega) (by omega)).trans ((new_n (by omega)).trans e2)), fun q h1 h2 => ?_, fun q hq => (up_n (by omega)).trans ((g5 q (by omega) (by omega)).trans ((new_n (by omega)).trans (e4 q hq))), by show h79.2.1 ≤ _; rw [g2]; show h.2.1 + 3 + 12 ≤ sl + 15 * (i + 1); omega⟩
      by_cases q3 : q = 3
      · subst q3
        rw [up_s]
        show some (8, rg 6 (fu (fun j => if j < i then .ref (18 + 2 * j) else .null) i (.ref (18 + 2 * i)))) = some (8, rg 6 (fun j => if j < i + 1 then .ref (18 + 2 * j) else .null))
        congr 2
        refine rg_z (fun j => ?_)
        unfold fu
        by_cases ej : j = i
        · subst ej
          rw [if_pos rfl, if_pos (by omega)]
        · rw [if_neg ej]
          show (if j < i then Value.ref (18 + 2 * j) else Value.null) = _
          by_cases hj : j < i
          · rw [if_pos hj, if_pos (by omega)]
          · rw [if_neg hj, if_neg (by omega)]
      · rw [up_n q3]
        by_cases qb : q = 18 + 2 * i
        · subst qb
          rw [g3, z3_hi (by omega), if_pos (by omega), show 18 + 2 * i + 1 = 19 + 2 * i by omega]
        · by_cases qa : q = 19 + 2 * i
          · subst qa
            rw [g4, z3_hi (by omega), if_neg (by omega)]
          · rw [g5 q qb qa, new_n (by omega), e3 q h1 (by omega), z3_i q3]
theorem c_init {F sl : Nat} {h : mm_H} (h1 : h.1 = 2) (hc : h.2.2 1 = some (3, [.null, .null, .null, .null, .null, .int 0, .null, .int 0, .int 0, .int 0, .int 0, .int 0, .int 0, .int 0, .int 0, .int 0, .int 0])) (hsl : h.2.1 ≤ sl) : mW none (F + 4) mX3_init 0 [(0, .ref 1)] [] h (fun r h' => r = none ∧ RC s02 h' ∧ h'.1 = 32 ∧ h'.2.1 ≤ sl + 1000) := by
  have H0 : Al 1 3 2 2 [.null, .null, .null, .null, .null, .int 0, .null, .int 0, .int 0, .int 0, .int 0, .int 0, .int 0, .int 0, .int 0, .int 0, .int 0] (z3 0) h sl h := ⟨h1, hc, fun q h1 h2 => by omega, fun q _ => rfl, hsl⟩
  refine w_aload_n (q := 1) aX3_init_0 rfl rfl ?_
  refine w_obj (q := 4) aX3_init_1 o_3_1 (by decide) rfl ?_
  refine w_aload_n (q := 5) aX3_init_4 rfl rfl ?_
  refine w_bipush (v := 8) (q := 7) aX3_init_5 rfl rfl ?_
  refine al_G (N := 8) (a := 2) (q := 9) (q2 := 12) (fs' := [.ref 2, .null, .null, .null, .null, .int 0, .null, .int 0, .int 0, .int 0, .int 0, .int 0, .int 0, .int 0, .int 0, .int 0, .int 0]) aX3_init_7 (x_newL (by omega)) rfl aX3_init_9 f_3_9 (Nat.le_of_ble_eq_true rfl) rfl rfl (Or.inr ⟨rfl, rfl⟩) rfl rfl (by omega) (by omega) H0 (fun h100 H1 => ?_)
  refine w_aload_n (q := 13) aX3_init_12 rfl rfl ?_
  refine w_bipush (v := 6) (q := 15) aX3_init_13 rfl rfl ?_
  refine al_G (N := 6) (a := 3) (q := 18) (q2 := 21) (fs' := [.ref 2, .ref 3, .null, .null, .null, .int 0, .null, .int 0, .int 0, .int 0, .int 0, .int 0, .int 0, .int 0, .int 0, .int 0, .int 0]) aX3_init_15 (x_newA (by omega) k_3_13 (by omega)) (congrArg (fun z => ((8 : Nat), z)) (rg_z (fun j => if_neg (Nat.not_lt_zero j)))) aX3_init_18 f_3_15 (Nat.le_of_ble_eq_true rfl) rfl rfl (Or.inr ⟨rfl, rfl⟩) rfl rfl (by omega) (by omega) H1 (fun h101 H2 => ?_)
  refine w_aload_n (q := 22) aX3_init_21 rfl rfl ?_
  refine w_new (q := 25) aX3_init_22 k_3_19 (by decide) rfl ?_
  rw [H2.1]
  refine w_dup (q := 26) aX3_init_25 rfl rfl ?_
  have hb : (mm_new h101 (2, mm_df 2)).2.2 4 = some (2, [.null, .null, .int 0, .int 0]) := by
    have := new_s h101 (2, mm_df 2)
    rw [H2.1] at this
    exact this
  refine w_callI aX3_init_26 o_3_21 t_3_21 (by decide) (this_at rfl hb) (rfl) (c_queueInit (a := 5) (b := 4) (by show h101.1 + 1 = 5; rw [H2.1]) (by omega) hb) (fun r26 h26 hp => ?_)
  obtain ⟨rfl, g1, g2, g3, g4, g5, g6⟩ := hp
  have H3 : Al 1 3 2 7 [.ref 2, .ref 3, .null, .null, .null, .int 0, .null, .int 0, .int 0, .int 0, .int 0, .int 0, .int 0, .int 0, .int 0, .int 0, .int 0] (z3 0) h (sl + 8 + 6 + 44) h26 := by
    obtain ⟨e1, e2, e3, e4, e5⟩ := H2
    refine ⟨g1, (g6 1 (by omega) (by omega) (by omega)).trans ((new_n (by omega)).trans e2), fun q k1 k2 => ?_, fun q hq => (g6 q (by omega) (by omega) (by omega)).trans ((new_n (by omega)).trans (e4 q hq)), ?_⟩
    · have hcs : q = 2 ∨ q = 3 ∨ q = 4 ∨ q = 5 ∨ q = 6 := by omega
      rcases hcs with rfl | rfl | rfl | rfl | rfl
      · exact (g6 2 (by omega) (by omega) (by omega)).trans ((new_n (by omega)).trans (e3 2 (by omega) (by omega)))
      · exact (g6 3 (by omega) (by omega) (by omega)).trans ((new_n (by omega)).trans (e3 3 (by omega) (by omega)))
      · exact g3
      · exact g4
      · exact g5
    · rw [g2]
      simp only [rg_len] at e5
      show h101.2.1 + 4 + 40 ≤ _
      omega
  refine w_put (q := 32) (fs' := [.ref 2, .ref 3, .ref 4, .null, .null, .int 0, .null, .int 0, .int 0, .int 0, .int 0, .int 0, .int 0, .int 0, .int 0, .int 0, .int 0]) aX3_init_29 f_3_22 (H3.2.1) (Nat.le_of_ble_eq_true rfl) rfl rfl (Or.inr ⟨rfl, rfl⟩) rfl rfl ?_
  have H4 := H3.fld (fs' := [.ref 2, .ref 3, .ref 4, .null, .null, .int 0, .null, .int 0, .int 0, .int 0, .int 0, .int 0, .int 0, .int 0, .int 0, .int 0, .int 0]) (by omega)
  generalize mm_up h26 1 (3, [.ref 2, .ref 3, .ref 4, .null, .null, .int 0, .null, .int 0, .int 0, .int 0, .int 0, .int 0, .int 0, .int 0, .int 0, .int 0, .int 0]) = h102 at H4
  refine w_aload_n (q := 33) aX3_init_32 rfl rfl ?_
  refine w_bipush (v := 40) (q := 35) aX3_init_33 rfl rfl ?_
  refine al_G (N := 40) (a := 7) (q := 38) (q2 := 41) (fs' := [.ref 2, .ref 3, .ref 4, .ref 7, .null, .int 0, .null, .int 0, .int 0, .int 0, .int 0, .int 0, .int 0, .int 0, .int 0, .int 0, .int 0]) aX3_init_35 (x_newA (by omega) k_3_26 (by omega)) rfl aX3_init_38 f_3_28 (Nat.le_of_ble_eq_true rfl) rfl rfl (Or.inr ⟨rfl, rfl⟩) rfl rfl (by omega) (by omega) H4 (fun h103 H5 => ?_)
  refine w_aload_n (q := 42) aX3_init_41 rfl rfl ?_
  refine w_bipush (v := 40) (q := 44) aX3_init_42 rfl rfl ?_
  refine al_G (N := 40) (a := 8) (q := 47) (q2 := 50) (fs' := [.ref 2, .ref 3, .ref 4, .ref 7, .ref 8, .int 0, .null, .int 0, .int 0, .int 0, .int 0, .int 0, .int 0, .int 0, .int 0, .int 0, .int 0]) aX3_init_44 (x_newA (by omega) k_3_26 (by omega)) rfl aX3_init_47 f_3_32 (Nat.le_of_ble_eq_true rfl) rfl rfl (Or.inr ⟨rfl, rfl⟩) rfl rfl (by omega) (by omega) H5 (fun h104 H6 => ?_)
  refine w_aload_n (q := 51) aX3_init_50 rfl rfl ?_
  refine w_bipush (v := 8) (q := 53) aX3_init_51 rfl rfl ?_
  refine w_bipush (v := 12) (q := 55) aX3_init_53 rfl rfl ?_
  refine mW.step aX3_init_55 (x_mna (N := 8) (K := 12) (by omega) (by omega) k_3_35) ?_
  rw [H6.1]
  have H7 : Al 1 3 2 18 [.ref 2, .ref 3, .ref 4, .ref 7, .ref 8, .int 0, .null, .int 0, .int 0, .int 0, .int 0, .int 0, .int 0, .int 0, .int 0, .int 0, .int 0] (z3 0) h (sl + 8 + 6 + 44 + 40 + 40 + 104) (mm_grid h104 8 12) := by
    obtain ⟨e1, e2, e3, e4, e5⟩ := H6
    have hg : ∀ q, ¬ (9 ≤ q ∧ q < 18) → (mm_grid h104 8 12).2.2 q = h104.2.2 q := fun q hq => by
      show (if q = h104.1 then _ else mm_rows (h104.1 + 1) 12 8 h104.2.2 q) = _
      rw [if_neg (by omega), rows_at, if_neg (by omega)]
    refine ⟨by show h104.1 + 1 + 8 = 18; rw [e1], (hg 1 (by omega)).trans e2, fun q k1 k2 => ?_, fun q hq => (hg q (by omega)).trans (e4 q hq), ?_⟩
    · by_cases q9 : q < 9
      · exact (hg q (by omega)).trans (e3 q k1 q9)
      · show (if q = h104.1 then some (9, (List.range 8).map (fun i => Value.ref (h104.1 + 1 + i))) else mm_rows (h104.1 + 1) 12 8 h104.2.2 q) = _
        rw [e1]
        by_cases e9 : q = 9
        · subst e9
          rw [if_pos rfl]
          rfl
        · rw [if_neg e9, rows_at, if_pos (by omega), z3_mid (by omega) k2]
    · simp only [rg_len] at e5
      show h104.2.1 + (8 + 8 * 12) ≤ _
      omega
  refine w_put (q := 62) (fs' := [.ref 2, .ref 3, .ref 4, .ref 7, .ref 8, .int 0, .ref 9, .int 0, .int 0, .int 0, .int 0, .int 0, .int 0, .int 0, .int 0, .int 0, .int 0]) aX3_init_59 f_3_37 (H7.2.1) (Nat.le_of_ble_eq_true rfl) rfl rfl (Or.inr ⟨rfl, rfl⟩) rfl rfl ?_
  have H8 := H7.fld (fs' := [.ref 2, .ref 3, .ref 4, .ref 7, .ref 8, .int 0, .ref 9, .int 0, .int 0, .int 0, .int 0, .int 0, .int 0, .int 0, .int 0, .int 0, .int 0]) (by omega)
  refine w_iconst (v := 0) (q := 63) aX3_init_62 rfl rfl ?_
  refine w_istore_n (q := 64) (ls' := [(1, _), (0, _)]) aX3_init_63 (by decide) rfl rfl ?_
  refine l_bells (F := F + 1) (fun h9 H9 => ?_) 6 0 _ rfl H8
  have hR : RC s00 h9 := by
    obtain ⟨e1, e2, e3, e4, e5⟩ := H9
    refine ⟨e2, e3 2 (by omega) (by omega), ?_, ?_, ?_, ?_, e3 9 (by omega) (by omega), fun d hd => ?_, fun k hk => ?_, fun k hk => absurd hk (Nat.not_lt_zero _)⟩
    · refine (e3 3 (by omega) (by omega)).trans ?_
      show some (8, rg 6 (fun j => if j < 6 then .ref (18 + 2 * j) else .null)) = _
      exact congrArg (fun z => some ((8 : Nat), z)) (rg_congr (fun j hj => if_pos hj))
    · exact ⟨0, fun _ => 0, fun _ => 0, e3 4 (by omega) (by omega), e3 5 (by omega) (by omega), e3 6 (by omega) (by omega), by omega, by decide, fun i e he => by cases he⟩
    · refine (e3 7 (by omega) (by omega)).trans ?_
      show some (7, rg 40 (fun _ => .null)) = _
      exact congrArg (fun z => some ((7 : Nat), z)) (rg_z (fun j => by rw [if_neg (show ¬ j < sM s00 from Nat.not_lt_zero j)]; rfl))
    · exact e3 8 (by omega) (by omega)
    · refine ⟨List.replicate 12 0, by decide, (e3 (10 + d) (by omega) (by omega)).trans ?_⟩
      rw [z3_mid (by omega) (by omega)]
      rfl
    · refine ⟨List.replicate 12 0, (e3 (18 + 2 * k) (by omega) (by omega)).trans ?_, (e3 (19 + 2 * k) (by omega) (by omega)).trans ?_, rfl, by omega, by omega⟩
      · rw [z3_hi (by omega), if_pos (by omega), show 18 + 2 * k + 1 = 19 + 2 * k by omega]
        rfl
      · rw [z3_hi (by omega), if_neg (by omega)]
        rfl
  refine w_aload_n (q := 90) aX3_init_89 rfl rfl ?_
  refine w_iconst (v := 0) (q := 91) aX3_init_90 rfl rfl ?_
  refine w_iconst (v := 0) (q := 92) aX3_init_91 rfl rfl ?_
  refine w_iconst (v := 0) (q := 93) aX3_init_92 rfl rfl ?_
  refine w_callV aX3_init_93 t_3_41 (this_at rfl H9.2.1) (rfl) (c_makeHearer (S := s00) (by decide) H9.1 (fun z => absurd z (by decide)) (fun z => absurd z (by decide)) (fun z => absurd z (by decide)) hR) (fun r93 h93 hp => ?_)
  obtain ⟨rfl, hR2, k1, k2, k3⟩ := hp
  refine w_pop (q := 97) aX3_init_96 rfl rfl ?_
  refine w_aload_n (q := 98) aX3_init_97 rfl rfl ?_
  refine w_bipush (v := 7) (q := 100) aX3_init_98 rfl rfl ?_
  refine w_iconst (v := 0) (q := 101) aX3_init_100 rfl rfl ?_
  refine w_iconst (v := 0) (q := 102) aX3_init_101 rfl rfl ?_
  refine w_callV aX3_init_102 t_3_41 (this_at rfl hR2.ho) (rfl) (c_makeHearer (S := p_make s00 0 0 0) (by decide) (by rw [k1, H9.1]; rfl) (fun z => absurd z (by decide)) (fun z => absurd z (by decide)) (fun z => absurd z (by decide)) hR2) (fun r102 h102 hp => ?_)
  obtain ⟨rfl, hR3, k4, k5, k6⟩ := hp
  refine w_pop (q := 106) aX3_init_105 rfl rfl ?_
  refine w_vret aX3_init_106 rfl ?_
  refine ⟨rfl, hR3, by rw [k4, k1, H9.1], ?_⟩
  have := H9.2.2.2.2
  rw [k5, k2]
  omega
