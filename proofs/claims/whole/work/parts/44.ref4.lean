theorem fu_if {α : Type} {g : α → Int32} {f : Nat → α} {m j : Nat} {x : α} (hj : j < m) : fu (fun i => Value.int (if i < m then g (f i) else 0)) j (.int (g x)) = fun i => Value.int (if i < m then g (fu f j x i) else 0) := by
  funext i
  unfold fu
  by_cases e : i = j
  · subst e
    simp [hj]
  · simp [e]
theorem fu_new {α : Type} {g : α → Int32} {f : Nat → α} {m : Nat} {x : α} : fu (fun i => Value.int (if i < m then g (f i) else 0)) m (.int (g x)) = fun i => Value.int (if i < m + 1 then g (fu f m x i) else 0) := by
  funext i
  unfold fu
  by_cases e : i = m
  · subst e
    simp
  · by_cases h : i < m
    · simp [e, h, show i < m + 1 by omega]
    · simp [e, h, show ¬ i < m + 1 by omega]
theorem fu_newL {α : Type} {g : α → Int64} {f : Nat → α} {m : Nat} {x : α} : fu (fun i => Value.long (if i < m then g (f i) else 0)) m (.long (g x)) = fun i => Value.long (if i < m + 1 then g (fu f m x i) else 0) := by
  funext i
  unfold fu
  by_cases e : i = m
  · subst e
    simp
  · by_cases h : i < m
    · simp [e, h, show i < m + 1 by omega]
    · simp [e, h, show ¬ i < m + 1 by omega]
theorem oI_m1 {o : Option Nat} (h : ∀ k, o = some k → k < 2 ^ 31) : oI o = -1 ↔ o = none := by
  cases o with
  | none => exact ⟨fun _ => rfl, fun _ => rfl⟩
  | some k =>
    refine ⟨fun e => ?_, fun e => by cases e⟩
    have e' : nI k = -1 := e
    have := nI_pos (n := k) (h k rfl)
    rw [e'] at this
    exact absurd (by decide) this
theorem d_take {F : Nat} {h : mm_H} {S : St} {P : List Fr} {X : Xs} {x : Int32} (ho : Ok S) (hR : RM S P X h) : mW none (F + 2) mX4_take 0 [(0, .ref 32), (1, .int x)] [] h (mP (p_take S x) P X h) := by
  obtain ⟨w, hm, r1, r2, r3, r4⟩ := hR
  have hS := ho.1
  unfold p_take
  refine w_aload_n (q := 1) aX4_take_0 rfl rfl ?_
  refine w_iload_n (q := 2) aX4_take_1 rfl rfl ?_
  refine w_callV aX4_take_2 t_4_106 (this_at rfl (hm 32 (by decide) (by decide))) (rfl) (d_isHearer hS hm) (fun r2 h2 hp => ?_)
  obtain ⟨rfl, rfl⟩ := hp
  refine w_if_ne (t := 11) (q := 8) aX4_take_5 (by decide) rfl (fun c5 => ?_) (fun c5 => ?_)
  · have hx := bz_ne0 c5
    rw [if_pos hx]
    obtain ⟨j, hj, rfl⟩ := rN_of (by omega) hx
    rw [nI_clamp (by omega)]
    have hoi := oI_m1 (o := sH S j) (fun k hk => by have := ho.2.1 j k hk; omega)
    have fin : ∀ y : Int32, y = (if sH S j = none then 0 else 1) → mW none (F + 2) mX4_take 26 [(0, .ref 32), (1, .int (nI j))] [.int y] h (mP ((if sH S j = none then 0 else 1), uH S (fu (sH S) j none)) P X h) := fun y hy => by
      refine w_istore_n (q := 27) (ls' := [(2, _), (0, _), (1, _)]) aX4_take_26 (by decide) rfl rfl ?_
      refine w_aload_n (q := 28) aX4_take_27 rfl rfl ?_
      refine w_get (q := 31) aX4_take_28 f_4_47 (hm 32 (by decide) (by decide)) rfl rfl ?_
      refine w_iload_n (q := 32) aX4_take_31 rfl rfl ?_
      refine w_iconst (v := -1) (q := 33) aX4_take_32 rfl rfl ?_
      refine w_iast (q := 34) (n := j) (vs' := _) aX4_take_33 (hm 45 (by decide) (by decide)) (rfl) (by rw [rg_len]; omega) (by rw [rg_len]; omega) (rg_set _ _ _ _) rfl ?_
      refine w_iload_n (q := 35) aX4_take_34 rfl rfl ?_
      refine w_iret aX4_take_35 rfl ?_
      refine ⟨by rw [hy], ⟨w, hm.up (S' := uH S (fu (sH S) j none)) (congrArg (fun z => ((5 : Nat), rg 40 z)) (fu_if (g := oI) (x := none) hj)) (fun q h1 h2 h3 => ?_), r1, r2, r3, r4⟩, fr.rf.up (AM_l (by omega))⟩
      rcases q23 q h1 h2 with rfl | rfl | rfl | rfl | rfl | rfl | rfl | rfl | rfl | rfl | rfl | rfl | rfl | rfl | rfl | rfl | rfl | rfl | rfl | rfl | rfl | rfl | rfl <;> first | exact absurd rfl h3 | rfl
    refine w_aload_n (q := 12) aX4_take_11 rfl rfl ?_
    refine w_get (q := 15) aX4_take_12 f_4_47 (hm 32 (by decide) (by decide)) rfl rfl ?_
    refine w_iload_n (q := 16) aX4_take_15 rfl rfl ?_
    refine w_iald (q := 17) aX4_take_16 (by decide) (hm 45 (by decide) (by decide)) (mm_ix_at (n := j) rfl (by omega) (rg_at (by omega))) rfl ?_
    rw [if_pos hj]
    refine w_iconst (v := -1) (q := 18) aX4_take_17 rfl rfl ?_
    refine w_ic_ne (t := 25) (q := 21) aX4_take_18 (by decide) rfl (fun c18 => ?_) (fun c18 => ?_)
    · refine w_iconst (v := 1) (q := 26) aX4_take_25 rfl rfl ?_
      exact fin 1 (by rw [if_neg (fun z => c18 (hoi.mpr z))])
    · refine w_iconst (v := 0) (q := 22) aX4_take_21 rfl rfl ?_
      refine w_goto (t := 26) aX4_take_22 (by decide) ?_
      exact fin 0 (by rw [if_pos (hoi.mp c18)])
  · rw [if_neg (bz_eq0 c5)]
    refine w_bipush (v := -2) (q := 10) aX4_take_8 rfl rfl ?_
    refine w_iret aX4_take_10 rfl ?_
    exact ⟨rfl, ⟨w, hm, r1, r2, r3, r4⟩, fr.rf⟩
theorem d_lend {F : Nat} {h : mm_H} {S : St} {P : List Fr} {X : Xs} {x y : Int32} (hS : sM S ≤ 40) (hR : RM S P X h) : mW none (F + 2) mX4_lend 0 [(0, .ref 32), (1, .int x), (2, .int y)] [] h (mP (p_lend S x y) P X h) := by
  obtain ⟨w, hm, r1, r2, r3, r4⟩ := hR
  unfold p_lend
  have bad : ¬ (rN (sM S) x ∧ rN (sM S) y) → mW none (F + 2) mX4_lend 16 [(0, .ref 32), (1, .int x), (2, .int y)] [] h (mP (if rN (sM S) x ∧ rN (sM S) y then (1, uH S (fu (sH S) x.toNatClampNeg (sH S y.toNatClampNeg))) else (-2, S)) P X h) := fun hn => by
    rw [if_neg hn]
    refine w_bipush (v := -2) (q := 18) aX4_lend_16 rfl rfl ?_
    refine w_iret aX4_lend_18 rfl ?_
    exact ⟨rfl, ⟨w, hm, r1, r2, r3, r4⟩, fr.rf⟩
  refine w_aload_n (q := 1) aX4_lend_0 rfl rfl ?_
  refine w_iload_n (q := 2) aX4_lend_1 rfl rfl ?_
  refine w_callV aX4_lend_2 t_4_106 (this_at rfl (hm 32 (by decide) (by decide))) (rfl) (d_isHearer hS hm) (fun r2 h2 hp => ?_)
  obtain ⟨rfl, rfl⟩ := hp
  refine w_if_eq (t := 16) (q := 8) aX4_lend_5 (by decide) rfl (fun c5 => ?_) (fun c5 => ?_)
  · exact bad (fun z => bz_eq0 c5 z.1)
  · refine w_aload_n (q := 9) aX4_lend_8 rfl rfl ?_
    refine w_iload_n (q := 10) aX4_lend_9 rfl rfl ?_
    refine w_callV aX4_lend_10 t_4_106 (this_at rfl (hm 32 (by decide) (by decide))) (rfl) (d_isHearer hS hm) (fun r10 h10 hp => ?_)
    obtain ⟨rfl, rfl⟩ := hp
    refine w_if_ne (t := 19) (q := 16) aX4_lend_13 (by decide) rfl (fun c13 => ?_) (fun c13 => ?_)
    · have hx := bz_ne0 c5
      have hy := bz_ne0 c13
      rw [if_pos ⟨hx, hy⟩]
      obtain ⟨j, hj, rfl⟩ := rN_of (by omega) hx
      obtain ⟨i, hi, rfl⟩ := rN_of (by omega) hy
      rw [nI_clamp (by omega), nI_clamp (by omega)]
      refine w_aload_n (q := 20) aX4_lend_19 rfl rfl ?_
      refine w_get (q := 23) aX4_lend_20 f_4_47 (hm 32 (by decide) (by decide)) rfl rfl ?_
      refine w_iload_n (q := 24) aX4_lend_23 rfl rfl ?_
      refine w_aload_n (q := 25) aX4_lend_24 rfl rfl ?_
      refine w_get (q := 28) aX4_lend_25 f_4_47 (hm 32 (by decide) (by decide)) rfl rfl ?_
      refine w_iload_n (q := 29) aX4_lend_28 rfl rfl ?_
      refine w_iald (q := 30) aX4_lend_29 (by decide) (hm 45 (by decide) (by decide)) (mm_ix_at (n := i) rfl (by omega) (rg_at (by omega))) rfl ?_
      rw [if_pos hi]
      refine w_iast (q := 31) (n := j) (vs' := _) aX4_lend_30 (hm 45 (by decide) (by decide)) (rfl) (by rw [rg_len]; omega) (by rw [rg_len]; omega) (rg_set _ _ _ _) rfl ?_
      refine w_iconst (v := 1) (q := 32) aX4_lend_31 rfl rfl ?_
      refine w_iret aX4_lend_32 rfl ?_
      refine ⟨rfl, ⟨w, hm.up (S' := uH S (fu (sH S) j (sH S i))) (congrArg (fun z => ((5 : Nat), rg 40 z)) (fu_if (g := oI) (x := sH S i) hj)) (fun q h1 h2 h3 => ?_), r1, r2, r3, r4⟩, fr.rf.up (AM_l (by omega))⟩
      rcases q23 q h1 h2 with rfl | rfl | rfl | rfl | rfl | rfl | rfl | rfl | rfl | rfl | rfl | rfl | rfl | rfl | rfl | rfl | rfl | rfl | rfl | rfl | rfl | rfl | rfl <;> first | exact absurd rfl h3 | rfl
    · exact bad (fun z => bz_eq0 c13 z.2)
theorem in01 {x : Int32} : (¬ x.toInt64 < 0 ∧ x.toInt64 ≤ 1) ↔ (x = 0 ∨ x = 1) := by
  rw [in_rN (n := 2) (by omega) (by decide)]
  constructor
  · intro h
    obtain ⟨j, hj, rfl⟩ := rN_of (by omega) h
    have : j = 0 ∨ j = 1 := by omega
    rcases this with rfl | rfl
    · exact Or.inl rfl
    · exact Or.inr rfl
  · rintro (rfl | rfl) <;> decide
theorem d_way {F : Nat} {h : mm_H} {S : St} {P : List Fr} {X : Xs} {b v : Int32} (hR : RM S P X h) : mW none (F + 2) mX4_way 0 [(0, .ref 32), (1, .int b), (2, .int v)] [] h (mP (p_way S b v) P X h) := by
  obtain ⟨w, hm, r1, r2, r3, r4⟩ := hR
  unfold p_way
  have bad : ¬ (rN 6 b ∧ (v = 0 ∨ v = 1)) → mW none (F + 2) mX4_way 17 [(0, .ref 32), (1, .int b), (2, .int v)] [] h (mP (if rN 6 b ∧ (v = 0 ∨ v = 1) then (sW S b.toNatClampNeg, uW S (fu (sW S) b.toNatClampNeg v)) else (-2, S)) P X h) := fun hn => by
    rw [if_neg hn]
    refine w_bipush (v := -2) (q := 19) aX4_way_17 rfl rfl ?_
    refine w_iret aX4_way_19 rfl ?_
    exact ⟨rfl, ⟨w, hm, r1, r2, r3, r4⟩, fr.rf⟩
  refine w_iload_n (q := 1) aX4_way_0 rfl rfl ?_
  refine w_callS aX4_way_1 x_4_97 t_4_97 (rfl) (d_isBell) (fun r1 h1 hp => ?_)
  obtain ⟨rfl, rfl⟩ := hp
  refine w_if_eq (t := 17) (q := 7) aX4_way_4 (by decide) rfl (fun c4 => ?_) (fun c4 => ?_)
  · exact bad (fun z => bz_eq0 c4 z.1)
  · refine w_iload_n (q := 8) aX4_way_7 rfl rfl ?_
    refine w_i2l (q := 9) aX4_way_8 rfl ?_
    refine w_lconst (v := 0) (q := 10) aX4_way_9 rfl rfl ?_
    refine w_lconst (v := 1) (q := 11) aX4_way_10 rfl rfl ?_
    refine w_callS aX4_way_11 x_4_85 t_4_85 (rfl) (d_in) (fun r11 h11 hp => ?_)
    obtain ⟨rfl, rfl⟩ := hp
    refine w_if_ne (t := 20) (q := 17) aX4_way_14 (by decide) rfl (fun c14 => ?_) (fun c14 => ?_)
    · have hb := bz_ne0 c4
      have hv := in01.mp (bz_ne0 c14)
      rw [if_pos ⟨hb, hv⟩]
      obtain ⟨j, hj, rfl⟩ := rN_of (by omega) hb
      rw [nI_clamp (by omega)]
      refine w_aload_n (q := 21) aX4_way_20 rfl rfl ?_
      refine w_get (q := 24) aX4_way_21 f_4_13 (hm 32 (by decide) (by decide)) rfl rfl ?_
      refine w_iload_n (q := 25) aX4_way_24 rfl rfl ?_
      refine w_iald (q := 26) aX4_way_25 (by decide) (hm 34 (by decide) (by decide)) (mm_ix_at (n := j) rfl (by omega) (rg_at hj)) rfl ?_
      refine w_istore_n (q := 27) (ls' := [(3, _), (0, _), (1, _), (2, _)]) aX4_way_26 (by decide) rfl rfl ?_
      refine w_aload_n (q := 28) aX4_way_27 rfl rfl ?_
      refine w_get (q := 31) aX4_way_28 f_4_13 (hm 32 (by decide) (by decide)) rfl rfl ?_
      refine w_iload_n (q := 32) aX4_way_31 rfl rfl ?_
      refine w_iload_n (q := 33) aX4_way_32 rfl rfl ?_
      refine w_iast (q := 34) (n := j) (vs' := _) aX4_way_33 (hm 34 (by decide) (by decide)) (rfl) (by rw [rg_len]; omega) (by rw [rg_len]; omega) (rg_set _ _ _ _) rfl ?_
      refine w_iload_n (q := 35) aX4_way_34 rfl rfl ?_
      refine w_iret aX4_way_35 rfl ?_
      refine ⟨rfl, ⟨w, hm.up (S' := uW S (fu (sW S) j v)) (congrArg (fun z => ((5 : Nat), rg 6 z)) (fu_map Value.int (sW S) j v)) (fun q h1 h2 h3 => ?_), r1, r2, r3, r4⟩, fr.rf.up (AM_l (by omega))⟩
      rcases q23 q h1 h2 with rfl | rfl | rfl | rfl | rfl | rfl | rfl | rfl | rfl | rfl | rfl | rfl | rfl | rfl | rfl | rfl | rfl | rfl | rfl | rfl | rfl | rfl | rfl <;> first | exact absurd rfl h3 | rfl
    · exact bad (fun z => bz_eq0 c14 (in01.mpr z.2))
theorem d_line {F : Nat} {h : mm_H} {S : St} {P : List Fr} {X : Xs} {b x : Int32} (hR : RM S P X h) : mW none (F + 2) mX4_line 0 [(0, .ref 32), (1, .int b), (2, .int x)] [] h (fun r h' => r = some (.int (p_line S b x)) ∧ h = h') := by
  obtain ⟨w, hm, r1, r2, r3, r4⟩ := hR
  unfold p_line
  refine w_iload_n (q := 1) aX4_line_0 rfl rfl ?_
  refine w_callS aX4_line_1 x_4_97 t_4_97 (rfl) (d_isBell) (fun r1 h1 hp => ?_)
  obtain ⟨rfl, rfl⟩ := hp
  refine w_if_ne (t := 10) (q := 7) aX4_line_4 (by decide) rfl (fun c4 => ?_) (fun c4 => ?_)
  · have hb := bz_ne0 c4
    rw [if_pos hb]
    obtain ⟨j, hj, rfl⟩ := rN_of (by omega) hb
    rw [nI_clamp (by omega)]
    have hr1 := r1 j hj
    refine w_iload_n (q := 11) aX4_line_10 rfl rfl ?_
    refine w_i2l (q := 12) aX4_line_11 rfl ?_
    refine w_lconst (v := 0) (q := 13) aX4_line_12 rfl rfl ?_
    refine w_aload_n (q := 14) aX4_line_13 rfl rfl ?_
    refine w_get (q := 17) aX4_line_14 f_4_20 (hm 32 (by decide) (by decide)) rfl rfl ?_
    refine w_iload_n (q := 18) aX4_line_17 rfl rfl ?_
    refine w_iald (q := 19) aX4_line_18 (by decide) (hm 36 (by decide) (by decide)) (mm_ix_at (n := j) rfl (by omega) (rg_at hj)) rfl ?_
    refine w_iconst (v := 1) (q := 20) aX4_line_19 rfl rfl ?_
    refine w_isub (q := 21) aX4_line_20 rfl ?_
    refine w_i2l (q := 22) aX4_line_21 rfl ?_
    refine w_callS aX4_line_22 x_4_85 t_4_85 (rfl) (d_in) (fun r22 h22 hp => ?_)
    obtain ⟨rfl, rfl⟩ := hp
    have hin := in_rN (x := x) (n := (sL S j).length) (by omega) (nIm1 (by omega))
    refine w_if_eq (t := 42) (q := 28) aX4_line_25 (by decide) rfl (fun c25 => ?_) (fun c25 => ?_)
    · have hn : ¬ rN (sL S j).length x := fun z => bz_eq0 c25 (hin.mpr z)
      refine w_iconst (v := -1) (q := 43) aX4_line_42 rfl rfl ?_
      refine w_iret aX4_line_43 rfl ?_
      refine ⟨?_, rfl⟩
      by_cases h0 : x < 0
      · rw [if_pos h0]
      · rw [if_neg h0]
        obtain ⟨i, hi, rfl⟩ := nI_of h0
        have : ¬ i < (sL S j).length := fun z => hn (rN_nI (by omega) z)
        rw [nI_clamp hi, List.getElem?_eq_none (by omega)]
        rfl
    · obtain ⟨i, hi, rfl⟩ := rN_of (by omega) (hin.mp (bz_ne0 c25))
      refine w_aload_n (q := 29) aX4_line_28 rfl rfl ?_
      refine w_get (q := 32) aX4_line_29 f_4_17 (hm 32 (by decide) (by decide)) rfl rfl ?_
      refine w_bipush (v := 12) (q := 34) aX4_line_32 rfl rfl ?_
      refine w_iload_n (q := 35) aX4_line_34 rfl rfl ?_
      refine w_imul (q := 36) aX4_line_35 rfl ?_
      refine w_iload_n (q := 37) aX4_line_36 rfl rfl ?_
      refine w_iadd (q := 38) aX4_line_37 rfl ?_
      rw [m12]
      refine w_iald (q := 39) aX4_line_38 (by decide) (hm 35 (by decide) (by decide)) (mm_ix_at (n := 12 * j + i) rfl (by omega) (rg_at (by omega))) rfl ?_
      refine w_goto (t := 43) aX4_line_39 (by decide) ?_
      refine w_iret aX4_line_43 rfl ?_
      refine ⟨?_, rfl⟩
      rw [if_neg (nI_pos (by omega)), nI_clamp (by omega), List.getElem?_eq_getElem hi, hr1.2.2 i _ (List.getElem?_eq_getElem hi)]
      rfl
  · rw [if_neg (bz_eq0 c4)]
    refine w_bipush (v := -2) (q := 9) aX4_line_7 rfl rfl ?_
    refine w_iret aX4_line_9 rfl ?_
    exact ⟨rfl, rfl⟩
theorem d_queued {F : Nat} {h : mm_H} {S : St} {P : List Fr} {X : Xs} {x : Int32} (hR : RM S P X h) : mW none (F + 2) mX4_queued 0 [(0, .ref 32), (1, .int x)] [] h (fun r h' => r = some (.int (p_queued S x)) ∧ h = h') := by
  obtain ⟨w, hm, r1, r2, r3, r4⟩ := hR
  have hl := r3.1
  unfold p_queued
  have hin := in_rN (x := x) (n := (sQ S).length) (by omega) (nIm1 (by omega))
  refine w_iload_n (q := 1) aX4_queued_0 rfl rfl ?_
  refine w_i2l (q := 2) aX4_queued_1 rfl ?_
  refine w_lconst (v := 0) (q := 3) aX4_queued_2 rfl rfl ?_
  refine w_aload_n (q := 4) aX4_queued_3 rfl rfl ?_
  refine w_get (q := 7) aX4_queued_4 f_4_147 (hm 32 (by decide) (by decide)) rfl rfl ?_
  refine w_iconst (v := 1) (q := 8) aX4_queued_7 rfl rfl ?_
  refine w_isub (q := 9) aX4_queued_8 rfl ?_
  refine w_i2l (q := 10) aX4_queued_9 rfl ?_
  refine w_callS aX4_queued_10 x_4_85 t_4_85 (rfl) (d_in) (fun r10 h10 hp => ?_)
  obtain ⟨rfl, rfl⟩ := hp
  refine w_if_eq (t := 25) (q := 16) aX4_queued_13 (by decide) rfl (fun c13 => ?_) (fun c13 => ?_)
  · have hn : ¬ rN (sQ S).length x := fun z => bz_eq0 c13 (hin.mpr z)
    refine w_iconst (v := -1) (q := 26) aX4_queued_25 rfl rfl ?_
    refine w_iret aX4_queued_26 rfl ?_
    refine ⟨?_, rfl⟩
    by_cases h0 : x < 0
    · rw [if_pos h0]
    · rw [if_neg h0]
      obtain ⟨i, hi, rfl⟩ := nI_of h0
      have : ¬ i < (sQ S).length := fun z => hn (rN_nI (by omega) z)
      rw [nI_clamp hi, List.getElem?_eq_none (by omega)]
      rfl
  · obtain ⟨i, hi, rfl⟩ := rN_of (by omega) (hin.mp (bz_ne0 c13))
    refine w_aload_n (q := 17) aX4_queued_16 rfl rfl ?_
    refine w_get (q := 20) aX4_queued_17 f_4_50 (hm 32 (by decide) (by decide)) rfl rfl ?_
    refine w_iload_n (q := 21) aX4_queued_20 rfl rfl ?_
    refine w_iald (q := 22) aX4_queued_21 (by decide) (hm 46 (by decide) (by decide)) (mm_ix_at (n := i) rfl (by omega) (rg_at (by omega))) rfl ?_
    refine w_goto (t := 26) aX4_queued_22 (by decide) ?_
    refine w_iret aX4_queued_26 rfl ?_
    refine ⟨?_, rfl⟩
    rw [if_neg (nI_pos (by omega)), nI_clamp (by omega), List.getElem?_eq_getElem hi, (r3.2 i _ (List.getElem?_eq_getElem hi)).1]
    rfl
theorem d_count {F : Nat} {h : mm_H} {S : St} {P : List Fr} {X : Xs} {x : Int32} (hR : RM S P X h) : mW none (F + 2) mX4_count 0 [(0, .ref 32), (1, .int x)] [] h (fun r h' => r = some (.int (p_count S x)) ∧ h = h') := by
  obtain ⟨w, hm, r1, r2, r3, r4⟩ := hR
  unfold p_count
  have hin := in_rN (x := x) (n := 10) (b := 9) (by omega) (by decide)
  refine w_iload_n (q := 1) aX4_count_0 rfl rfl ?_
  refine w_i2l (q := 2) aX4_count_1 rfl ?_
  refine w_lconst (v := 0) (q := 3) aX4_count_2 rfl rfl ?_
  refine w_ldc (q := 6) aX4_count_3 l_4_182 rfl ?_
  refine w_callS aX4_count_6 x_4_85 t_4_85 (rfl) (d_in) (fun r6 h6 hp => ?_)
  obtain ⟨rfl, rfl⟩ := hp
  refine w_if_ne (t := 15) (q := 12) aX4_count_9 (by decide) rfl (fun c9 => ?_) (fun c9 => ?_)
  · have hx := hin.mp (bz_ne0 c9)
    rw [if_pos hx]
    obtain ⟨i, hi, rfl⟩ := rN_of (by omega) hx
    refine w_iload_n (q := 16) aX4_count_15 rfl rfl ?_
    refine w_bipush (v := 7) (q := 18) aX4_count_16 rfl rfl ?_
    refine w_ic_ne (t := 28) (q := 21) aX4_count_18 (by decide) rfl (fun c18 => ?_) (fun c18 => ?_)
    · refine w_aload_n (q := 29) aX4_count_28 rfl rfl ?_
      refine w_get (q := 32) aX4_count_29 f_4_74 (hm 32 (by decide) (by decide)) rfl rfl ?_
      refine w_iload_n (q := 33) aX4_count_32 rfl rfl ?_
      refine w_iald (q := 34) aX4_count_33 (by decide) (hm 54 (by decide) (by decide)) (mm_ix_at (n := i) rfl (by omega) (rg_at hi)) rfl ?_
      refine w_iret aX4_count_34 rfl ?_
      refine ⟨?_, rfl⟩
      rw [if_neg c18, nI_clamp (by omega)]
      by_cases h0 : i = 0
      · subst h0
        rw [if_pos rfl, if_pos (show nI 0 = 0 from rfl)]
      · rw [if_neg h0, if_neg (show ¬ nI i = 0 from fun z => h0 ((nI_eq (b := 0) (by omega) (by omega)).mp z))]
    · refine w_aload_n (q := 22) aX4_count_21 rfl rfl ?_
      refine w_get (q := 25) aX4_count_22 f_4_147 (hm 32 (by decide) (by decide)) rfl rfl ?_
      refine w_goto (t := 34) aX4_count_25 (by decide) ?_
      refine w_iret aX4_count_34 rfl ?_
      refine ⟨?_, rfl⟩
      rw [if_neg (by rw [c18]; decide), if_pos c18]
  · rw [if_neg (fun z => bz_eq0 c9 (hin.mpr z))]
    refine w_bipush (v := -2) (q := 14) aX4_count_12 rfl rfl ?_
    refine w_iret aX4_count_14 rfl ?_
    exact ⟨rfl, rfl⟩
theorem d_done {F : Nat} {h : mm_H} {S : St} {P : List Fr} {X : Xs} {x : Int32} (hS : sM S ≤ 40) (hR : RM S P X h) : mW none (F + 2) mX4_done 0 [(0, .ref 32), (1, .int x)] [] h (fun r h' => r = some (.int (p_done S x)) ∧ h = h') := by
  obtain ⟨w, hm, r1, r2, r3, r4⟩ := hR
  unfold p_done
  refine w_aload_n (q := 1) aX4_done_0 rfl rfl ?_
  refine w_iload_n (q := 2) aX4_done_1 rfl rfl ?_
  refine w_callV aX4_done_2 t_4_106 (this_at rfl (hm 32 (by decide) (by decide))) (rfl) (d_isHearer hS hm) (fun r2 h2 hp => ?_)
  obtain ⟨rfl, rfl⟩ := hp
  refine w_if_eq (t := 17) (q := 8) aX4_done_5 (by decide) rfl (fun c5 => ?_) (fun c5 => ?_)
  · rw [if_neg (bz_eq0 c5)]
    refine w_bipush (v := -2) (q := 19) aX4_done_17 rfl rfl ?_
    refine w_iret aX4_done_19 rfl ?_
    exact ⟨rfl, rfl⟩
  · have hb := bz_ne0 c5
    rw [if_pos hb]
    obtain ⟨j, hj, rfl⟩ := rN_of (by omega) hb
    rw [nI_clamp (by omega)]
    refine w_aload_n (q := 9) aX4_done_8 rfl rfl ?_
    refine w_get (q := 12) aX4_done_9 f_4_44 (hm 32 (by decide) (by decide)) rfl rfl ?_
    refine w_iload_n (q := 13) aX4_done_12 rfl rfl ?_
    refine w_iald (q := 14) aX4_done_13 (by decide) (hm 44 (by decide) (by decide)) (mm_ix_at (n := j) rfl (by omega) (rg_at (by omega))) rfl ?_
    rw [if_pos hj]
    refine w_goto (t := 19) aX4_done_14 (by decide) ?_
    refine w_iret aX4_done_19 rfl ?_
    exact ⟨rfl, rfl⟩
