/-- the row of lines while a hearer is taken out of bell b: up to i it is as it will be -/
def rOut (li0 li : Nat → Int32) (b i : Nat) (p q : List Int32) (x : Int32) : Prop := (∀ t y, t < i → (p ++ q)[t]? = some y → li (12 * b + t) = y) ∧ (∀ t y, i ≤ t → (p ++ x :: q)[t]? = some y → li (12 * b + t) = y) ∧ ∀ j, ¬ (12 * b ≤ j ∧ j < 12 * b + 12) → li j = li0 j
theorem m_out {F : Nat} {S1 : St} {n : Nat} {X : Xs} {b : Nat} {p q : List Int32} {x hd : Int32} {w0 : Raw} (hb : b < 6) (hS : sL S1 b = p ++ q) (hlen : p.length + q.length < 12) : ∀ (m i : Nat) (w : Raw) (h h0 : mm_H), m + i = p.length + q.length → p.length ≤ i → hM S1 n X w h → w.2 = w0.2 → rOut w0.1 w.1 b i p q x → fr AM h0 h → mW none F mX4_out 25 [(4, .int (nI i)), (3, .int hd), (0, .ref 32), (1, .int x), (2, .int (nI b))] [] h (fun r h' => r = some (.int hd) ∧ fr AM h0 h' ∧ ∃ w' : Raw, hM S1 n X w' h' ∧ w'.2 = w0.2 ∧ rOut w0.1 w'.1 b (p.length + q.length) p q x) := by
  intro m
  induction m with
  | zero =>
    intro i w h h0 hmi hpi hm hw hr hf
    obtain rfl : i = p.length + q.length := by omega
    refine w_iload (q := 27) aX4_out_25 rfl rfl ?_
    refine w_aload_n (q := 28) aX4_out_27 rfl rfl ?_
    refine w_get (q := 31) aX4_out_28 f_4_20 (hm 32 (by decide) (by decide)) rfl rfl ?_
    refine w_iload_n (q := 32) aX4_out_31 rfl rfl ?_
    refine w_iald (q := 33) aX4_out_32 (by decide) (hm 36 (by decide) (by decide)) (mm_ix_at (n := b) rfl (by omega) (rg_at hb)) rfl ?_
    refine w_ic_ge (t := 68) (q := 36) aX4_out_33 (by decide) rfl (fun c33 => ?_) (fun c33 => ?_)
    · refine w_iload_n (q := 69) aX4_out_68 rfl rfl ?_
      refine w_iret aX4_out_69 rfl ?_
      exact ⟨rfl, hf, w, hm, hw, hr⟩
    · exact absurd (by rw [hS, List.length_append]; exact nI_le (Nat.le_refl _) (by omega)) c33
  | succ m ih =>
    intro i w h h0 hmi hpi hm hw hr hf
    refine w_iload (q := 27) aX4_out_25 rfl rfl ?_
    refine w_aload_n (q := 28) aX4_out_27 rfl rfl ?_
    refine w_get (q := 31) aX4_out_28 f_4_20 (hm 32 (by decide) (by decide)) rfl rfl ?_
    refine w_iload_n (q := 32) aX4_out_31 rfl rfl ?_
    refine w_iald (q := 33) aX4_out_32 (by decide) (hm 36 (by decide) (by decide)) (mm_ix_at (n := b) rfl (by omega) (rg_at hb)) rfl ?_
    refine w_ic_ge (t := 68) (q := 36) aX4_out_33 (by decide) rfl (fun c33 => ?_) (fun c33 => ?_)
    · exact absurd c33 (nI_ge (by rw [hS, List.length_append]; omega) (by rw [hS, List.length_append]; omega))
    · refine w_aload_n (q := 37) aX4_out_36 rfl rfl ?_
      refine w_get (q := 40) aX4_out_37 f_4_17 (hm 32 (by decide) (by decide)) rfl rfl ?_
      refine w_bipush (v := 12) (q := 42) aX4_out_40 rfl rfl ?_
      refine w_iload_n (q := 43) aX4_out_42 rfl rfl ?_
      refine w_imul (q := 44) aX4_out_43 rfl ?_
      refine w_iload (q := 46) aX4_out_44 rfl rfl ?_
      refine w_iadd (q := 47) aX4_out_46 rfl ?_
      refine w_aload_n (q := 48) aX4_out_47 rfl rfl ?_
      refine w_get (q := 51) aX4_out_48 f_4_17 (hm 32 (by decide) (by decide)) rfl rfl ?_
      refine w_bipush (v := 12) (q := 53) aX4_out_51 rfl rfl ?_
      refine w_iload_n (q := 54) aX4_out_53 rfl rfl ?_
      refine w_imul (q := 55) aX4_out_54 rfl ?_
      refine w_iload (q := 57) aX4_out_55 rfl rfl ?_
      refine w_iadd (q := 58) aX4_out_57 rfl ?_
      refine w_iconst (v := 1) (q := 59) aX4_out_58 rfl rfl ?_
      refine w_iadd (q := 60) aX4_out_59 rfl ?_
      rw [m12, nI_1]
      refine w_iald (q := 61) aX4_out_60 (by decide) (hm 35 (by decide) (by decide)) (mm_ix_at (n := 12 * b + i + 1) rfl (by omega) (rg_at (by omega))) rfl ?_
      refine w_iast (q := 62) (n := 12 * b + i) (vs' := _) aX4_out_61 (hm 35 (by decide) (by decide)) (rfl) (by rw [rg_len]; omega) (by rw [rg_len]; omega) (rg_set _ _ _ _) rfl ?_
      refine w_iinc (q := 65) (ls' := [(4, _), (3, _), (0, _), (1, _), (2, _)]) aX4_out_62 rfl rfl (by decide) rfl rfl ?_
      refine w_goto (t := 25) aX4_out_65 (by decide) ?_
      rw [show nI i + Int32.ofInt 1 = nI (i + 1) from nI_1 i]
      refine ih (i + 1) (fu w.1 (12 * b + i) (w.1 (12 * b + i + 1)), w.2) _ h0 (by omega) (by omega) (hm.up (by rw [fu_map Value.int]; rfl) (fun q h1 h2 h3 => ?_)) hw ?_ (hf.up (AM_l (by omega)))
      · rcases q23 q h1 h2 with rfl | rfl | rfl | rfl | rfl | rfl | rfl | rfl | rfl | rfl | rfl | rfl | rfl | rfl | rfl | rfl | rfl | rfl | rfl | rfl | rfl | rfl | rfl <;> first | exact absurd rfl h3 | rfl
      · obtain ⟨g1, g2, g3⟩ := hr
        have hli : (p ++ q).length = p.length + q.length := List.length_append
        refine ⟨fun t y ht hy => ?_, fun t y ht hy => ?_, fun j hj => ?_⟩
        · show fu w.1 _ _ (12 * b + t) = y
          by_cases e : t = i
          · subst e
            rw [fu_s]
            rw [show 12 * b + t + 1 = 12 * b + (t + 1) by omega]
            refine g2 (t + 1) y (by omega) ?_
            rw [List.getElem?_append_right (by omega)] at hy ⊢
            rw [show t + 1 - p.length = (t - p.length) + 1 by omega, List.getElem?_cons_succ]
            exact hy
          · rw [fu_n (by omega)]
            exact g1 t y (by omega) hy
        · show fu w.1 _ _ (12 * b + t) = y
          rw [fu_n (by omega)]
          exact g2 t y (by omega) hy
        · show fu w.1 _ _ j = w0.1 j
          rw [fu_n (by omega)]
          exact g3 j hj
theorem d_out {F : Nat} {h : mm_H} {S : St} {P : List Fr} {X : Xs} {x : Int32} {b : Nat} (hb : b < 6) (hR : RM S P X h) : mW none (F + 1) mX4_out 0 [(0, .ref 32), (1, .int x), (2, .int (nI b))] [] h (fun r h' => r = some (.int (pls (sL S b) x)) ∧ RM (uL S (fu (sL S) b ((sL S b).erase x))) P X h' ∧ fr AM h h') := by
  obtain ⟨w, hm, r1, r2, r3, r4⟩ := hR
  have hr1 := r1 b hb
  refine w_aload_n (q := 1) aX4_out_0 rfl rfl ?_
  refine w_iload_n (q := 2) aX4_out_1 rfl rfl ?_
  refine w_iload_n (q := 3) aX4_out_2 rfl rfl ?_
  refine w_callV aX4_out_3 t_4_109 (this_at rfl (hm 32 (by decide) (by decide))) (rfl) (d_placeOf hb hm r1) (fun r3 h3 hp => ?_)
  obtain ⟨rfl, rfl⟩ := hp
  refine w_istore_n (q := 7) (ls' := [(3, _), (0, _), (1, _), (2, _)]) aX4_out_6 (by decide) rfl rfl ?_
  refine w_iload_n (q := 8) aX4_out_7 rfl rfl ?_
  refine w_iconst (v := -1) (q := 9) aX4_out_8 rfl rfl ?_
  refine w_ic_eq (t := 68) (q := 12) aX4_out_9 (by decide) rfl (fun c9 => ?_) (fun c9 => ?_)
  · have hx := (pls_m1 (by omega)).mp c9
    refine w_iload_n (q := 69) aX4_out_68 rfl rfl ?_
    refine w_iret aX4_out_69 rfl ?_
    refine ⟨rfl, ?_, fr.rf⟩
    rw [List.erase_of_not_mem hx, fu_id]
    exact ⟨w, hm, r1, r2, r3, r4⟩
  · have hx : x ∈ sL S b := Classical.byContradiction fun z => c9 (pls_no z)
    obtain ⟨p, q, hl, hxp⟩ := List.eq_append_cons_of_mem hx
    have he : (sL S b).erase x = p ++ q := by rw [hl, List.erase_append_right _ hxp, List.erase_cons_head]
    have hlen : (sL S b).length = p.length + q.length + 1 := by rw [hl]; simp; omega
    rw [he]
    refine w_aload_n (q := 13) aX4_out_12 rfl rfl ?_
    refine w_get (q := 16) aX4_out_13 f_4_20 (hm 32 (by decide) (by decide)) rfl rfl ?_
    refine w_iload_n (q := 17) aX4_out_16 rfl rfl ?_
    refine w_dup2 (q := 18) aX4_out_17 ⟨rfl, rfl⟩ rfl ?_
    refine w_iald (q := 19) aX4_out_18 (by decide) (hm 36 (by decide) (by decide)) (mm_ix_at (n := b) rfl (by omega) (rg_at hb)) rfl ?_
    refine w_iconst (v := 1) (q := 20) aX4_out_19 rfl rfl ?_
    refine w_isub (q := 21) aX4_out_20 rfl ?_
    refine w_iast (q := 22) (n := b) (vs' := _) aX4_out_21 (hm 36 (by decide) (by decide)) (rfl) (by rw [rg_len]; omega) (by rw [rg_len]; omega) (rg_set _ _ _ _) rfl ?_
    refine w_iload_n (q := 23) aX4_out_22 rfl rfl ?_
    refine w_istore (q := 25) (ls' := [(4, _), (3, _), (0, _), (1, _), (2, _)]) aX4_out_23 (by decide) rfl rfl ?_
    rw [show pls (sL S b) x = nI p.length from by rw [hl]; exact pls_at hxp]
    have e36 : rg 6 (fu (fun j => Value.int (nI (sL S j).length)) b (.int (nI (sL S b).length - 1))) = rg 6 (fun j => .int (nI (fu (sL S) b (p ++ q) j).length)) := by
      rw [← fu_len, List.length_append, hlen, nI_pred]
    have hm1 : hM (uL S (fu (sL S) b (p ++ q))) P.length X w (mm_up h 36 (5, rg 6 (fu (fun j => Value.int (nI (sL S j).length)) b (.int (nI (sL S b).length - 1))))) := by
      intro q h1 h2
      rcases q23 q h1 h2 with rfl | rfl | rfl | rfl | rfl | rfl | rfl | rfl | rfl | rfl | rfl | rfl | rfl | rfl | rfl | rfl | rfl | rfl | rfl | rfl | rfl | rfl | rfl <;> first | exact hm _ h1 h2 | exact congrArg (fun z => some ((5 : Nat), z)) e36 |  rfl
    refine (m_out (S1 := uL S (fu (sL S) b (p ++ q))) (p := p) (q := q) (x := x) (hd := nI p.length) (w0 := w) hb fu_s (by omega) q.length p.length w _ h (by omega) (Nat.le_refl _) hm1 rfl ⟨fun t y ht hy => ?_, fun t y ht hy => ?_, fun j _ => rfl⟩ (fr.rf.up (AM_l (by omega)))).imp (fun r h' hk => ?_)
    · rw [List.getElem?_append_left ht] at hy
      exact hr1.2.2 t y (by rw [hl, List.getElem?_append_left ht]; exact hy)
    · exact hr1.2.2 t y (by rw [hl]; exact hy)
    · obtain ⟨rfl, hf, w', hm', hw', g1, -, g3⟩ := hk
      refine ⟨rfl, ⟨w', hm', ?_, by rw [hw']; exact r2, by rw [hw']; exact r3, ?_⟩, hf⟩
      · intro k hk
        show (fu (sL S) b (p ++ q) k).length ≤ 12 ∧ (fu (sL S) b (p ++ q) k).Nodup ∧ ∀ i y, (fu (sL S) b (p ++ q) k)[i]? = some y → _
        by_cases e : k = b
        · subst e
          rw [fu_s]
          refine ⟨by rw [List.length_append]; omega, ?_, fun i y hy => g1 i y ?_ hy⟩
          · rw [← he]
            exact hr1.2.1.erase x
          · have := (List.getElem?_eq_some_iff.mp hy).1
            rw [List.length_append] at this
            exact this
        · rw [fu_n e]
          refine ⟨(r1 k hk).1, (r1 k hk).2.1, fun i y hy => ?_⟩
          have hi := (List.getElem?_eq_some_iff.mp hy).1
          have := (r1 k hk).1
          rw [g3 (12 * k + i) (by omega)]
          exact (r1 k hk).2.2 i y hy
      · intro p9 f hp9
        have := r4 p9 f hp9
        rw [hw']
        exact this
theorem d_bind {F : Nat} {h : mm_H} {S : St} {P : List Fr} {X : Xs} {x b : Int32} (hS : sM S ≤ 40) (hR : RM S P X h) : mW none (F + 2) mX4_bind 0 [(0, .ref 32), (1, .int x), (2, .int b)] [] h (mP (p_bind S x b) P X h) := by
  obtain ⟨w, hm, r1, r2, r3, r4⟩ := hR
  unfold p_bind
  have bad : ¬ (rN (sM S) x ∧ rN 6 b) → mW none (F + 2) mX4_bind 15 [(0, .ref 32), (1, .int x), (2, .int b)] [] h (mP (if rN (sM S) x ∧ rN 6 b then (if x ∈ sL S b.toNatClampNeg then (-1, S) else if (sL S b.toNatClampNeg).length = 12 then (-3, S) else (nI (sL S b.toNatClampNeg).length, uL S (fu (sL S) b.toNatClampNeg (sL S b.toNatClampNeg ++ [x])))) else (-2, S)) P X h) := fun hn => by
    rw [if_neg hn]
    refine w_bipush (v := -2) (q := 17) aX4_bind_15 rfl rfl ?_
    refine w_iret aX4_bind_17 rfl ?_
    exact ⟨rfl, ⟨w, hm, r1, r2, r3, r4⟩, fr.rf⟩
  refine w_aload_n (q := 1) aX4_bind_0 rfl rfl ?_
  refine w_iload_n (q := 2) aX4_bind_1 rfl rfl ?_
  refine w_callV aX4_bind_2 t_4_106 (this_at rfl (hm 32 (by decide) (by decide))) (rfl) (d_isHearer hS hm) (fun r2 h2 hp => ?_)
  obtain ⟨rfl, rfl⟩ := hp
  refine w_if_eq (t := 15) (q := 8) aX4_bind_5 (by decide) rfl (fun c5 => ?_) (fun c5 => ?_)
  · exact bad (fun z => bz_eq0 c5 z.1)
  · refine w_iload_n (q := 9) aX4_bind_8 rfl rfl ?_
    refine w_callS aX4_bind_9 x_4_97 t_4_97 (rfl) (d_isBell) (fun r9 h9 hp => ?_)
    obtain ⟨rfl, rfl⟩ := hp
    refine w_if_ne (t := 18) (q := 15) aX4_bind_12 (by decide) rfl (fun c12 => ?_) (fun c12 => ?_)
    · have hx := bz_ne0 c5
      have hb := bz_ne0 c12
      rw [if_pos ⟨hx, hb⟩]
      obtain ⟨j, hj, rfl⟩ := rN_of (by omega) hb
      rw [nI_clamp (by omega)]
      have hr1 := r1 j hj
      refine w_aload_n (q := 19) aX4_bind_18 rfl rfl ?_
      refine w_iload_n (q := 20) aX4_bind_19 rfl rfl ?_
      refine w_iload_n (q := 21) aX4_bind_20 rfl rfl ?_
      refine w_callV aX4_bind_21 t_4_109 (this_at rfl (hm 32 (by decide) (by decide))) (rfl) (d_placeOf hj hm r1) (fun r21 h21 hp => ?_)
      obtain ⟨rfl, rfl⟩ := hp
      refine w_iconst (v := -1) (q := 25) aX4_bind_24 rfl rfl ?_
      refine w_ic_eq (t := 30) (q := 28) aX4_bind_25 (by decide) rfl (fun c25 => ?_) (fun c25 => ?_)
      · have hnx := (pls_m1 (by omega)).mp c25
        rw [if_neg hnx]
        refine w_aload_n (q := 31) aX4_bind_30 rfl rfl ?_
        refine w_get (q := 34) aX4_bind_31 f_4_20 (hm 32 (by decide) (by decide)) rfl rfl ?_
        refine w_iload_n (q := 35) aX4_bind_34 rfl rfl ?_
        refine w_iald (q := 36) aX4_bind_35 (by decide) (hm 36 (by decide) (by decide)) (mm_ix_at (n := j) rfl (by omega) (rg_at hj)) rfl ?_
        refine w_bipush (v := 12) (q := 38) aX4_bind_36 rfl rfl ?_
        refine w_ic_ne (t := 44) (q := 41) aX4_bind_38 (by decide) rfl (fun c38 => ?_) (fun c38 => ?_)
        · have hl : (sL S j).length < 12 := by
            rcases Nat.lt_or_ge (sL S j).length 12 with z | z
            · exact z
            · exact absurd (by rw [show (sL S j).length = 12 by omega]; rfl) c38
          rw [if_neg (by omega)]
          refine w_aload_n (q := 45) aX4_bind_44 rfl rfl ?_
          refine w_iload_n (q := 46) aX4_bind_45 rfl rfl ?_
          refine w_iload_n (q := 47) aX4_bind_46 rfl rfl ?_
          refine w_callV aX4_bind_47 t_4_113 (this_at rfl (hm 32 (by decide) (by decide))) (rfl) (d_put hj hl hnx ⟨w, hm, r1, r2, r3, r4⟩) (fun r47 h47 hp => ?_)
          obtain ⟨rfl, ⟨w', hm', s1, s2, s3, s4⟩, hf⟩ := hp
          refine w_aload_n (q := 51) aX4_bind_50 rfl rfl ?_
          refine w_get (q := 54) aX4_bind_51 f_4_20 (hm' 32 (by decide) (by decide)) rfl rfl ?_
          refine w_iload_n (q := 55) aX4_bind_54 rfl rfl ?_
          refine w_iald (q := 56) aX4_bind_55 (by decide) (hm' 36 (by decide) (by decide)) (mm_ix_at (n := j) rfl (by omega) (rg_at hj)) rfl ?_
          refine w_iconst (v := 1) (q := 57) aX4_bind_56 rfl rfl ?_
          refine w_isub (q := 58) aX4_bind_57 rfl ?_
          refine w_iret aX4_bind_58 rfl ?_
          refine ⟨?_, ⟨w', hm', s1, s2, s3, s4⟩, hf⟩
          show some (Value.int (nI (fu (sL S) j (sL S j ++ [x]) j).length - 1)) = _
          rw [fu_s, List.length_append]
          exact congrArg (fun z => some (Value.int z)) (nI_pred _)
        · have hl : (sL S j).length = 12 := (nI_eq (b := 12) (by omega) (by omega)).mp c38
          rw [if_pos hl]
          refine w_bipush (v := -3) (q := 43) aX4_bind_41 rfl rfl ?_
          refine w_iret aX4_bind_43 rfl ?_
          exact ⟨rfl, ⟨w, hm, r1, r2, r3, r4⟩, fr.rf⟩
      · have hin : x ∈ sL S j := Classical.byContradiction fun z => c25 (pls_no z)
        rw [if_pos hin]
        refine w_iconst (v := -1) (q := 29) aX4_bind_28 rfl rfl ?_
        refine w_iret aX4_bind_29 rfl ?_
        exact ⟨rfl, ⟨w, hm, r1, r2, r3, r4⟩, fr.rf⟩
    · exact bad (fun z => bz_eq0 c12 z.2)
theorem d_leave {F : Nat} {h : mm_H} {S : St} {P : List Fr} {X : Xs} {x b : Int32} (hS : sM S ≤ 40) (hR : RM S P X h) : mW none (F + 2) mX4_leave 0 [(0, .ref 32), (1, .int x), (2, .int b)] [] h (mP (p_leave S x b) P X h) := by
  have hR0 := hR
  obtain ⟨w, hm, -⟩ := hR
  unfold p_leave
  have bad : ¬ (rN (sM S) x ∧ rN 6 b) → mW none (F + 2) mX4_leave 24 [(0, .ref 32), (1, .int x), (2, .int b)] [] h (mP (if rN (sM S) x ∧ rN 6 b then (pls (sL S b.toNatClampNeg) x, uL S (fu (sL S) b.toNatClampNeg ((sL S b.toNatClampNeg).erase x))) else (-2, S)) P X h) := fun hn => by
    rw [if_neg hn]
    refine w_bipush (v := -2) (q := 26) aX4_leave_24 rfl rfl ?_
    refine w_iret aX4_leave_26 rfl ?_
    exact ⟨rfl, hR0, fr.rf⟩
  refine w_aload_n (q := 1) aX4_leave_0 rfl rfl ?_
  refine w_iload_n (q := 2) aX4_leave_1 rfl rfl ?_
  refine w_callV aX4_leave_2 t_4_106 (this_at rfl (hm 32 (by decide) (by decide))) (rfl) (d_isHearer hS hm) (fun r2 h2 hp => ?_)
  obtain ⟨rfl, rfl⟩ := hp
  refine w_if_eq (t := 24) (q := 8) aX4_leave_5 (by decide) rfl (fun c5 => ?_) (fun c5 => ?_)
  · exact bad (fun z => bz_eq0 c5 z.1)
  · refine w_iload_n (q := 9) aX4_leave_8 rfl rfl ?_
    refine w_callS aX4_leave_9 x_4_97 t_4_97 (rfl) (d_isBell) (fun r9 h9 hp => ?_)
    obtain ⟨rfl, rfl⟩ := hp
    refine w_if_eq (t := 24) (q := 15) aX4_leave_12 (by decide) rfl (fun c12 => ?_) (fun c12 => ?_)
    · exact bad (fun z => bz_eq0 c12 z.2)
    · have hx := bz_ne0 c5
      have hb := bz_ne0 c12
      rw [if_pos ⟨hx, hb⟩]
      obtain ⟨j, hj, rfl⟩ := rN_of (by omega) hb
      rw [nI_clamp (by omega)]
      refine w_aload_n (q := 16) aX4_leave_15 rfl rfl ?_
      refine w_iload_n (q := 17) aX4_leave_16 rfl rfl ?_
      refine w_iload_n (q := 18) aX4_leave_17 rfl rfl ?_
      refine w_callV aX4_leave_18 t_4_117 (this_at rfl (hm 32 (by decide) (by decide))) (rfl) (d_out hj hR0) (fun r18 h18 hp => ?_)
      obtain ⟨rfl, hR2, hf⟩ := hp
      refine w_goto (t := 26) aX4_leave_21 (by decide) ?_
      refine w_iret aX4_leave_26 rfl ?_
      exact ⟨rfl, hR2, hf⟩
