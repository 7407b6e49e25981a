theorem fr_bell {h h' : mm_H} {j : Nat} (hj : j < 6) (hf : fr (fun q => q = 18 + 2 * j ∨ q = 19 + 2 * j) h h') : fr AR h h' := hf.mono (fun q hq => AR_lit (by omega))
theorem uWL (S : St) (f : Nat → List Int32) : uW (uL S f) (sW S) = uL S f := rfl
theorem c_bind {F : Nat} {h : mm_H} {S : St} {x b : Int32} (hM : sM S ≤ 40) (hR : RC S h) : mW none (F + 2) mX3_bind 0 [(0, .ref 1), (1, .int x), (2, .int b)] [] h (cP (p_bind S x b) h) := by
  unfold p_bind
  have bad : ¬ (rN (sM S) x ∧ rN 6 b) → mW none (F + 2) mX3_bind 28 [(0, .ref 1), (1, .int x), (2, .int b)] [] h (cP (if rN (sM S) x ∧ rN 6 b then (if x ∈ sL S b.toNatClampNeg then (-1, S) else if (sL S b.toNatClampNeg).length = 12 then (-3, S) else (nI (sL S b.toNatClampNeg).length, uL S (fu (sL S) b.toNatClampNeg (sL S b.toNatClampNeg ++ [x])))) else (-2, S)) h) := fun hn => by
    rw [if_neg hn]
    refine w_bipush (v := -2) (q := 30) aX3_bind_28 rfl rfl ?_
    refine w_iret aX3_bind_30 rfl ?_
    exact ⟨rfl, hR, fr.rf⟩
  refine w_aload_n (q := 1) aX3_bind_0 rfl rfl ?_
  refine w_iload_n (q := 2) aX3_bind_1 rfl rfl ?_
  refine w_callV aX3_bind_2 t_3_64 (this_at rfl hR.ho) (rfl) (c_isHearer hR) (fun r2 h2 hp => ?_)
  obtain ⟨rfl, rfl⟩ := hp
  refine w_if_eq (t := 28) (q := 8) aX3_bind_5 (by decide) rfl (fun c5 => ?_) (fun c5 => ?_)
  · exact bad (fun z => bz_eq0 c5 z.1)
  · refine w_iload_n (q := 9) aX3_bind_8 rfl rfl ?_
    refine w_callS aX3_bind_9 x_3_49 t_3_49 (rfl) (c_isBell) (fun r9 h9 hp => ?_)
    obtain ⟨rfl, rfl⟩ := hp
    refine w_if_eq (t := 28) (q := 15) aX3_bind_12 (by decide) rfl (fun c12 => ?_) (fun c12 => ?_)
    · exact bad (fun z => bz_eq0 c12 z.2)
    · have hx := bz_ne0 c5
      have hb := bz_ne0 c12
      rw [if_pos ⟨hx, hb⟩]
      obtain ⟨j, hj, rfl⟩ := rN_of (by omega) hb
      rw [nI_clamp (by omega)]
      obtain ⟨g, hg⟩ := hR.bel hj
      refine w_aload_n (q := 16) aX3_bind_15 rfl rfl ?_
      refine w_get (q := 19) aX3_bind_16 f_3_15 (hR.ho) rfl rfl ?_
      refine w_iload_n (q := 20) aX3_bind_19 rfl rfl ?_
      refine w_aald (q := 21) aX3_bind_20 (hR.be) (by decide) (mm_ix_at (n := j) rfl (by omega) (rg_at hj)) rfl ?_
      refine w_iload_n (q := 22) aX3_bind_21 rfl rfl ?_
      refine w_callV aX3_bind_22 t_3_67 (this_at rfl hg.1) (rfl) (c_append hg) (fun r22 h22 hp => ?_)
      rcases hp with ⟨hin, rfl, rfl⟩ | ⟨hin, hl, rfl, rfl⟩ | ⟨hin, hl, rfl, hg2, hf⟩
      · refine w_goto (t := 30) aX3_bind_25 (by decide) ?_
        refine w_iret aX3_bind_30 rfl ?_
        rw [if_pos hin]
        exact ⟨rfl, hR, fr.rf⟩
      · refine w_goto (t := 30) aX3_bind_25 (by decide) ?_
        refine w_iret aX3_bind_30 rfl ?_
        rw [if_neg hin, if_pos hl]
        exact ⟨rfl, hR, fr.rf⟩
      · refine w_goto (t := 30) aX3_bind_25 (by decide) ?_
        refine w_iret aX3_bind_30 rfl ?_
        rw [if_neg hin, if_neg (by omega)]
        have hR2 := hR.upBe hj hf hg2
        rw [fu_id] at hR2
        exact ⟨rfl, hR2, fr_bell hj hf⟩
theorem c_leave {F : Nat} {h : mm_H} {S : St} {x b : Int32} (hM : sM S ≤ 40) (hR : RC S h) : mW none (F + 2) mX3_leave 0 [(0, .ref 1), (1, .int x), (2, .int b)] [] h (cP (p_leave S x b) h) := by
  unfold p_leave
  have bad : ¬ (rN (sM S) x ∧ rN 6 b) → mW none (F + 2) mX3_leave 28 [(0, .ref 1), (1, .int x), (2, .int b)] [] h (cP (if rN (sM S) x ∧ rN 6 b then (pls (sL S b.toNatClampNeg) x, uL S (fu (sL S) b.toNatClampNeg ((sL S b.toNatClampNeg).erase x))) else (-2, S)) h) := fun hn => by
    rw [if_neg hn]
    refine w_bipush (v := -2) (q := 30) aX3_leave_28 rfl rfl ?_
    refine w_iret aX3_leave_30 rfl ?_
    exact ⟨rfl, hR, fr.rf⟩
  refine w_aload_n (q := 1) aX3_leave_0 rfl rfl ?_
  refine w_iload_n (q := 2) aX3_leave_1 rfl rfl ?_
  refine w_callV aX3_leave_2 t_3_64 (this_at rfl hR.ho) (rfl) (c_isHearer hR) (fun r2 h2 hp => ?_)
  obtain ⟨rfl, rfl⟩ := hp
  refine w_if_eq (t := 28) (q := 8) aX3_leave_5 (by decide) rfl (fun c5 => ?_) (fun c5 => ?_)
  · exact bad (fun z => bz_eq0 c5 z.1)
  · refine w_iload_n (q := 9) aX3_leave_8 rfl rfl ?_
    refine w_callS aX3_leave_9 x_3_49 t_3_49 (rfl) (c_isBell) (fun r9 h9 hp => ?_)
    obtain ⟨rfl, rfl⟩ := hp
    refine w_if_eq (t := 28) (q := 15) aX3_leave_12 (by decide) rfl (fun c12 => ?_) (fun c12 => ?_)
    · exact bad (fun z => bz_eq0 c12 z.2)
    · have hx := bz_ne0 c5
      have hb := bz_ne0 c12
      rw [if_pos ⟨hx, hb⟩]
      obtain ⟨j, hj, rfl⟩ := rN_of (by omega) hb
      rw [nI_clamp (by omega)]
      obtain ⟨g, hg⟩ := hR.bel hj
      refine w_aload_n (q := 16) aX3_leave_15 rfl rfl ?_
      refine w_get (q := 19) aX3_leave_16 f_3_15 (hR.ho) rfl rfl ?_
      refine w_iload_n (q := 20) aX3_leave_19 rfl rfl ?_
      refine w_aald (q := 21) aX3_leave_20 (hR.be) (by decide) (mm_ix_at (n := j) rfl (by omega) (rg_at hj)) rfl ?_
      refine w_iload_n (q := 22) aX3_leave_21 rfl rfl ?_
      refine w_callV aX3_leave_22 t_3_71 (this_at rfl hg.1) (rfl) (c_remove hg) (fun r22 h22 hp => ?_)
      obtain ⟨rfl, hg2, hf⟩ := hp
      refine w_goto (t := 30) aX3_leave_25 (by decide) ?_
      refine w_iret aX3_leave_30 rfl ?_
      have hR2 := hR.upBe hj hf hg2
      rw [fu_id] at hR2
      exact ⟨rfl, hR2, fr_bell hj hf⟩
theorem fu_va {f : Nat → Option Nat} {i : Nat} {o : Option Nat} : fu (fun j => va_rf ((f j).map aa)) i (va_rf (o.map aa)) = fun j => va_rf ((fu f i o j).map aa) := fu_map (fun z : Option Nat => va_rf (z.map aa)) f i o
theorem c_take {F : Nat} {h : mm_H} {S : St} {x : Int32} (hM : sM S ≤ 40) (hR : RC S h) : mW none (F + 1) mX3_take 0 [(0, .ref 1), (1, .int x)] [] h (cP (p_take S x) h) := by
  unfold p_take
  refine w_aload_n (q := 1) aX3_take_0 rfl rfl ?_
  refine w_iload_n (q := 2) aX3_take_1 rfl rfl ?_
  refine w_callV aX3_take_2 t_3_64 (this_at rfl hR.ho) (rfl) (c_isHearer hR) (fun r2 h2 hp => ?_)
  obtain ⟨rfl, rfl⟩ := hp
  refine w_if_ne (t := 11) (q := 8) aX3_take_5 (by decide) rfl (fun c5 => ?_) (fun c5 => ?_)
  · have hx := bz_ne0 c5
    rw [if_pos hx]
    obtain ⟨j, hj, rfl⟩ := rN_of (by omega) hx
    rw [nI_clamp (by omega)]
    have fin : ∀ y : Int32, y = (if sH S j = none then 0 else 1) → mW none (F + 1) mX3_take 25 [(0, .ref 1), (1, .int (nI j))] [.int y] h (cP ((if sH S j = none then 0 else 1), uH S (fu (sH S) j none)) h) := fun y hy => by
      refine w_istore_n (q := 26) (ls' := [(2, _), (0, _), (1, _)]) aX3_take_25 (by decide) rfl rfl ?_
      refine w_aload_n (q := 27) aX3_take_26 rfl rfl ?_
      refine w_get (q := 30) aX3_take_27 f_3_32 (hR.ho) rfl rfl ?_
      refine w_iload_n (q := 31) aX3_take_30 rfl rfl ?_
      refine w_null (q := 32) aX3_take_31 rfl ?_
      refine w_aast (q := 33) (ci := 0) (n := j) aX3_take_32 (hR.ha) (by decide) (rfl) (rfl) (by rw [rg_len]; omega) (by rw [rg_len]; omega) (rg_set _ _ _ _) rfl ?_
      refine w_iload_n (q := 34) aX3_take_33 rfl rfl ?_
      refine w_iret aX3_take_34 rfl ?_
      exact ⟨by rw [hy], hR.upHa (fu_va (o := none) ▸ rfl), fr.rf.up (AR_lit (by omega))⟩
    refine w_aload_n (q := 12) aX3_take_11 rfl rfl ?_
    refine w_get (q := 15) aX3_take_12 f_3_32 (hR.ho) rfl rfl ?_
    refine w_iload_n (q := 16) aX3_take_15 rfl rfl ?_
    refine w_aald (q := 17) aX3_take_16 (hR.ha) (by decide) (mm_ix_at (n := j) rfl (by omega) (rg_at (by omega))) rfl ?_
    refine w_nonnull (t := 24) (q := 20) aX3_take_17 (by decide) rfl (fun v17 c17 => ?_) (fun c17 => ?_)
    · have hs : ¬ sH S j = none := fun z => by rw [z] at c17; cases c17
      refine w_iconst (v := 1) (q := 25) aX3_take_24 rfl rfl ?_
      exact fin 1 (by rw [if_neg hs])
    · have hs : sH S j = none := by
        cases hh : sH S j with
        | none => rfl
        | some k => rw [hh] at c17; cases c17
      refine w_iconst (v := 0) (q := 21) aX3_take_20 rfl rfl ?_
      refine w_goto (t := 25) aX3_take_21 (by decide) ?_
      exact fin 0 (by rw [if_pos hs])
  · rw [if_neg (bz_eq0 c5)]
    refine w_bipush (v := -2) (q := 10) aX3_take_8 rfl rfl ?_
    refine w_iret aX3_take_10 rfl ?_
    exact ⟨rfl, hR, fr.rf⟩
theorem okv_act {S : St} {h : mm_H} (hR : RC S h) {o : Option Nat} (ho : ∀ k, o = some k → k < sM S) : mm_okv h 0 (va_rf (o.map aa)) = true := by
  cases o with
  | none => rfl
  | some k =>
    show (match h.2.2 (aa k) with | some c => c.1 == 0 | none => false) = true
    rw [hR.ac (ho k rfl)]
    rfl
theorem c_lend {F : Nat} {h : mm_H} {S : St} {x y : Int32} (hM : sM S ≤ 40) (hH : ∀ j k, sH S j = some k → k < sM S) (hR : RC S h) : mW none (F + 1) mX3_lend 0 [(0, .ref 1), (1, .int x), (2, .int y)] [] h (cP (p_lend S x y) h) := by
  unfold p_lend
  have bad : ¬ (rN (sM S) x ∧ rN (sM S) y) → mW none (F + 1) mX3_lend 16 [(0, .ref 1), (1, .int x), (2, .int y)] [] h (cP (if rN (sM S) x ∧ rN (sM S) y then (1, uH S (fu (sH S) x.toNatClampNeg (sH S y.toNatClampNeg))) else (-2, S)) h) := fun hn => by
    rw [if_neg hn]
    refine w_bipush (v := -2) (q := 18) aX3_lend_16 rfl rfl ?_
    refine w_iret aX3_lend_18 rfl ?_
    exact ⟨rfl, hR, fr.rf⟩
  refine w_aload_n (q := 1) aX3_lend_0 rfl rfl ?_
  refine w_iload_n (q := 2) aX3_lend_1 rfl rfl ?_
  refine w_callV aX3_lend_2 t_3_64 (this_at rfl hR.ho) (rfl) (c_isHearer hR) (fun r2 h2 hp => ?_)
  obtain ⟨rfl, rfl⟩ := hp
  refine w_if_eq (t := 16) (q := 8) aX3_lend_5 (by decide) rfl (fun c5 => ?_) (fun c5 => ?_)
  · exact bad (fun z => bz_eq0 c5 z.1)
  · refine w_aload_n (q := 9) aX3_lend_8 rfl rfl ?_
    refine w_iload_n (q := 10) aX3_lend_9 rfl rfl ?_
    refine w_callV aX3_lend_10 t_3_64 (this_at rfl hR.ho) (rfl) (c_isHearer hR) (fun r10 h10 hp => ?_)
    obtain ⟨rfl, rfl⟩ := hp
    refine w_if_ne (t := 19) (q := 16) aX3_lend_13 (by decide) rfl (fun c13 => ?_) (fun c13 => ?_)
    · have hx := bz_ne0 c5
      have hy := bz_ne0 c13
      rw [if_pos ⟨hx, hy⟩]
      obtain ⟨j, hj, rfl⟩ := rN_of (by omega) hx
      obtain ⟨i, hi, rfl⟩ := rN_of (by omega) hy
      rw [nI_clamp (by omega), nI_clamp (by omega)]
      refine w_aload_n (q := 20) aX3_lend_19 rfl rfl ?_
      refine w_get (q := 23) aX3_lend_20 f_3_32 (hR.ho) rfl rfl ?_
      refine w_iload_n (q := 24) aX3_lend_23 rfl rfl ?_
      refine w_aload_n (q := 25) aX3_lend_24 rfl rfl ?_
      refine w_get (q := 28) aX3_lend_25 f_3_32 (hR.ho) rfl rfl ?_
      refine w_iload_n (q := 29) aX3_lend_28 rfl rfl ?_
      refine w_aald (q := 30) aX3_lend_29 (hR.ha) (by decide) (mm_ix_at (n := i) rfl (by omega) (rg_at (by omega))) rfl ?_
      refine w_aast (q := 31) (ci := 0) (n := j) aX3_lend_30 (hR.ha) (by decide) (okv_act hR (hH i)) (rfl) (by rw [rg_len]; omega) (by rw [rg_len]; omega) (rg_set _ _ _ _) rfl ?_
      refine w_iconst (v := 1) (q := 32) aX3_lend_31 rfl rfl ?_
      refine w_iret aX3_lend_32 rfl ?_
      exact ⟨rfl, hR.upHa (by rw [fu_va]), fr.rf.up (AR_lit (by omega))⟩
    · exact bad (fun z => bz_eq0 c13 z.2)
