theorem l_remove {F : Nat} {b a : Nat} {p g : List Int32} {w x hd : Int32} (ha : ¬ a = 0) (hba : ¬ b = a) : ∀ (q2 q1 : List Int32) (y : Int32) (h : mm_H), h.2.2 b = some (1, [.ref a, .int (nI (p.length + q1.length + q2.length)), .int w]) → h.2.2 a = some (5, ((p ++ q1) ++ y :: (q2 ++ g)).map Value.int) → p.length + q1.length + q2.length + 1 + g.length = 12 →
    mW none F mX1_remove 25 [(3, .int (nI (p.length + q1.length))), (2, .int hd), (0, .ref b), (1, .int x)] [] h (fun r h' => r = some (.int hd) ∧ (∃ y', bl h' b a ((p ++ q1) ++ q2) (y' :: g) w) ∧ fr (fun q => q = b ∨ q = a) h h') := by
  intro q2
  induction q2 with
  | nil =>
    intro q1 y h h1 h2 h3
    refine w_iload_n (q := 26) aX1_remove_25 rfl rfl ?_
    refine w_aload_n (q := 27) aX1_remove_26 rfl rfl ?_
    refine w_get (q := 30) aX1_remove_27 f_1_19 (h1) rfl rfl ?_
    refine w_ic_ge (t := 53) (q := 33) aX1_remove_30 (by decide) rfl (fun c30 => ?_) (fun c30 => ?_)
    · refine w_iload_n (q := 54) aX1_remove_53 rfl rfl ?_
      refine w_iret aX1_remove_54 rfl ?_
      refine ⟨rfl, ⟨y, ?_, ?_, ?_, ha, hba⟩, fr.rf⟩
      · rw [h1]
        simp
      · rw [h2]
        simp
      · simp at h3 ⊢ <;> omega
    · exact absurd (by simp) c30
  | cons z q2 ih =>
    intro q1 y h h1 h2 h3
    have hl3 : p.length + q1.length + q2.length + 2 + g.length = 12 := by simp at h3; omega
    refine w_iload_n (q := 26) aX1_remove_25 rfl rfl ?_
    refine w_aload_n (q := 27) aX1_remove_26 rfl rfl ?_
    refine w_get (q := 30) aX1_remove_27 f_1_19 (h1) rfl rfl ?_
    refine w_ic_ge (t := 53) (q := 33) aX1_remove_30 (by decide) rfl (fun c30 => ?_) (fun c30 => ?_)
    · exact absurd c30 (nI_ge (by simp <;> omega) (by simp <;> omega))
    · refine w_aload_n (q := 34) aX1_remove_33 rfl rfl ?_
      refine w_get (q := 37) aX1_remove_34 f_1_9 (h1) rfl rfl ?_
      refine w_iload_n (q := 38) aX1_remove_37 rfl rfl ?_
      refine w_aload_n (q := 39) aX1_remove_38 rfl rfl ?_
      refine w_get (q := 42) aX1_remove_39 f_1_9 (h1) rfl rfl ?_
      refine w_iload_n (q := 43) aX1_remove_42 rfl rfl ?_
      refine w_iconst (v := 1) (q := 44) aX1_remove_43 rfl rfl ?_
      refine w_iadd (q := 45) aX1_remove_44 rfl ?_
      refine w_iald (q := 46) aX1_remove_45 (ha) (h2) (mm_ix_at (n := p.length + q1.length + 1) (v := .int z) (nI_1 _) (by omega) (ints_at (by rw [List.getElem?_append_right (by simp)]; simp))) rfl ?_
      refine w_iast (q := 47) (n := p.length + q1.length) (vs' := ((p ++ (q1 ++ [z])) ++ z :: (q2 ++ g)).map Value.int) aX1_remove_46 (h2) (rfl) (by simp <;> omega) (by simp <;> omega) (by rw [← List.map_set]; congr 1; rw [List.set_append_right _ _ (by simp)]; simp) rfl ?_
      refine w_iinc (q := 50) (ls' := [(3, _), (2, _), (0, _), (1, _)]) aX1_remove_47 rfl rfl (by decide) rfl rfl ?_
      refine w_goto (t := 25) aX1_remove_50 (by decide) ?_
      have k := ih (q1 ++ [z]) z (mm_up h a (5, ((p ++ (q1 ++ [z])) ++ z :: (q2 ++ g)).map Value.int)) ((up_n hba).trans (by rw [h1]; simp only [List.length_append, List.length_cons, List.length_nil]; rw [show p.length + q1.length + (q2.length + 1) = p.length + (q1.length + (0 + 1)) + q2.length by omega])) (up_s _ _ _) (by simp <;> omega)
      rw [show nI (p.length + q1.length) + Int32.ofInt 1 = nI (p.length + (q1 ++ [z]).length) from by rw [List.length_append]; exact nI_1 _]
      refine k.imp (fun r h' hk => ⟨hk.1, ?_, (fr.rf.up (Or.inr rfl)).tr hk.2.2⟩)
      obtain ⟨y', hy⟩ := hk.2.1
      exact ⟨y', by simpa using hy⟩
theorem c_remove {F : Nat} {h : mm_H} {b a : Nat} {l g : List Int32} {w x : Int32} (hb : bl h b a l g w) : mW none (F + 1) mX1_remove 0 [(0, .ref b), (1, .int x)] [] h (fun r h' => r = some (.int (pls l x)) ∧ (∃ g', bl h' b a (l.erase x) g' w) ∧ fr (fun q => q = b ∨ q = a) h h') := by
  have hlen := hb.2.2.1
  refine w_aload_n (q := 1) aX1_remove_0 rfl rfl ?_
  refine w_iload_n (q := 2) aX1_remove_1 rfl rfl ?_
  refine w_callV aX1_remove_2 t_1_22 (this_at rfl hb.1) (rfl) (c_placeOf hb) (fun r2 h2 hp => ?_)
  obtain ⟨rfl, rfl⟩ := hp
  refine w_istore_n (q := 6) (ls' := [(2, _), (0, _), (1, _)]) aX1_remove_5 (by decide) rfl rfl ?_
  refine w_iload_n (q := 7) aX1_remove_6 rfl rfl ?_
  refine w_iconst (v := -1) (q := 8) aX1_remove_7 rfl rfl ?_
  refine w_ic_ne (t := 13) (q := 11) aX1_remove_8 (by decide) rfl (fun c8 => ?_) (fun c8 => ?_)
  · have hx : x ∈ l := Classical.byContradiction fun z => c8 (pls_no z)
    obtain ⟨p, q, rfl, hxp⟩ := List.eq_append_cons_of_mem hx
    have hlen2 : p.length + q.length + 1 + g.length = 12 := by simp at hlen; omega
    refine w_aload_n (q := 14) aX1_remove_13 rfl rfl ?_
    refine w_dup (q := 15) aX1_remove_14 rfl rfl ?_
    refine w_get (q := 18) aX1_remove_15 f_1_19 (hb.1) rfl rfl ?_
    refine w_iconst (v := 1) (q := 19) aX1_remove_18 rfl rfl ?_
    refine w_isub (q := 20) aX1_remove_19 rfl ?_
    refine w_put (q := 23) (fs' := [_, _, _]) aX1_remove_20 f_1_19 (hb.1) (Nat.le_of_ble_eq_true rfl) rfl rfl (Or.inl rfl) rfl rfl ?_
    refine w_iload_n (q := 24) aX1_remove_23 rfl rfl ?_
    refine w_istore_n (q := 25) (ls' := [(3, _), (2, _), (0, _), (1, _)]) aX1_remove_24 (by decide) rfl rfl ?_
    rw [pls_at hxp]
    have k := l_remove (F := F + 1) (p := p) (g := g) (w := w) (x := x) (hd := nI p.length) hb.2.2.2.1 hb.2.2.2.2 q [] x (mm_up h b (1, [.ref a, .int (nI (p ++ x :: q).length - 1), .int w])) (by rw [up_s]; simp only [List.length_append, List.length_cons, List.length_nil]; rw [show p.length + (q.length + 1) = (p.length + 0 + q.length) + 1 by omega, nI_pred]) ((up_n (fun z => hb.2.2.2.2 z.symm)).trans (by rw [hb.2.1]; simp)) (by simp <;> omega)
    refine k.imp (fun r h' hk => ⟨hk.1, ?_, (fr.rf.up (Or.inl rfl)).tr hk.2.2⟩)
    obtain ⟨y', hy⟩ := hk.2.1
    refine ⟨y' :: g, ?_⟩
    rw [List.erase_append_right _ hxp, List.erase_cons_head]
    simpa using hy
  · have hx := (pls_m1 (by omega)).mp c8
    refine w_iconst (v := -1) (q := 12) aX1_remove_11 rfl rfl ?_
    refine w_iret aX1_remove_12 rfl ?_
    refine ⟨by rw [c8], ⟨g, ?_⟩, fr.rf⟩
    rw [List.erase_of_not_mem hx]
    exact hb
theorem c_hearerAt {F : Nat} {h : mm_H} {b a : Nat} {l g : List Int32} {w x : Int32} (hb : bl h b a l g w) : mW none F mX1_hearerAt 0 [(0, .ref b), (1, .int x)] [] h (fun r h' => r = some (.int (if x < 0 then -1 else (l[x.toNatClampNeg]?).getD (-1))) ∧ h = h') := by
  have hlen := hb.2.2.1
  refine w_iload_n (q := 1) aX1_hearerAt_0 rfl rfl ?_
  refine w_if_lt (t := 21) (q := 4) aX1_hearerAt_1 (by decide) rfl (fun c1 => ?_) (fun c1 => ?_)
  · refine w_iconst (v := -1) (q := 22) aX1_hearerAt_21 rfl rfl ?_
    refine w_iret aX1_hearerAt_22 rfl ?_
    exact ⟨by rw [if_pos c1], rfl⟩
  · obtain ⟨j, hj, rfl⟩ := nI_of c1
    refine w_iload_n (q := 5) aX1_hearerAt_4 rfl rfl ?_
    refine w_aload_n (q := 6) aX1_hearerAt_5 rfl rfl ?_
    refine w_get (q := 9) aX1_hearerAt_6 f_1_19 (hb.1) rfl rfl ?_
    refine w_ic_ge (t := 21) (q := 12) aX1_hearerAt_9 (by decide) rfl (fun c9 => ?_) (fun c9 => ?_)
    · refine w_iconst (v := -1) (q := 22) aX1_hearerAt_21 rfl rfl ?_
      refine w_iret aX1_hearerAt_22 rfl ?_
      have : l.length ≤ j := (nI_leI (by omega) hj).mp c9
      refine ⟨?_, rfl⟩
      rw [if_neg c1, nI_clamp hj, List.getElem?_eq_none this]
      rfl
    · have hjl : j < l.length := by
        rcases Nat.lt_or_ge j l.length with z | z
        · exact z
        · exact absurd (nI_le z hj) c9
      refine w_aload_n (q := 13) aX1_hearerAt_12 rfl rfl ?_
      refine w_get (q := 16) aX1_hearerAt_13 f_1_9 (hb.1) rfl rfl ?_
      refine w_iload_n (q := 17) aX1_hearerAt_16 rfl rfl ?_
      refine w_iald (q := 18) aX1_hearerAt_17 (hb.2.2.2.1) (hb.2.1) (mm_ix_at (n := j) (v := .int l[j]) rfl hj (ints_at (by rw [List.getElem?_append_left hjl]; exact List.getElem?_eq_getElem hjl))) rfl ?_
      refine w_goto (t := 22) aX1_hearerAt_18 (by decide) ?_
      refine w_iret aX1_hearerAt_22 rfl ?_
      refine ⟨?_, rfl⟩
      rw [if_neg c1, nI_clamp hj, List.getElem?_eq_getElem hjl]
      rfl
theorem l_copyLine {F : Nat} {b a rw9 : Nat} {l g : List Int32} {w : Int32} (hr0 : ¬ b = rw9) (hr1 : ¬ a = rw9) : ∀ (q p rr : List Int32) (h : mm_H), l = p ++ q → bl h b a l g w → q.length ≤ rr.length → p.length + rr.length = 12 → h.2.2 rw9 = some (5, (p ++ rr).map Value.int) →
    mW none F mX1_copyLine 2 [(2, .int (nI p.length)), (0, .ref b), (1, .ref rw9)] [] h (fun r h' => r = some (.int (nI l.length)) ∧ (∃ rr', l.length + rr'.length = 12 ∧ h'.2.2 rw9 = some (5, (l ++ rr').map Value.int)) ∧ fr (fun q => q = rw9) h h') := by
  intro q
  induction q with
  | nil =>
    intro p rr h hl hb h1 h2 h3
    rw [List.append_nil] at hl
    have hlen := hb.2.2.1
    refine w_iload_n (q := 3) aX1_copyLine_2 rfl rfl ?_
    refine w_aload_n (q := 4) aX1_copyLine_3 rfl rfl ?_
    refine w_get (q := 7) aX1_copyLine_4 f_1_19 (hb.1) rfl rfl ?_
    refine w_ic_ge (t := 25) (q := 10) aX1_copyLine_7 (by decide) rfl (fun c7 => ?_) (fun c7 => ?_)
    · refine w_aload_n (q := 26) aX1_copyLine_25 rfl rfl ?_
      refine w_get (q := 29) aX1_copyLine_26 f_1_19 (hb.1) rfl rfl ?_
      refine w_iret aX1_copyLine_29 rfl ?_
      exact ⟨rfl, ⟨rr, by rw [hl]; exact h2, by rw [hl]; exact h3⟩, fr.rf⟩
    · exact absurd (by rw [hl]; exact nI_le (Nat.le_refl _) (by rw [hl] at hlen; omega)) c7
  | cons y q ih =>
    intro p rr h hl hb h1 h2 h3
    have hlen := hb.2.2.1
    have hpl : p.length < l.length := by rw [hl]; simp
    obtain ⟨z, rr, rfl⟩ : ∃ z r9, rr = z :: r9 := by
      cases rr with
      | nil => simp at h1
      | cons z r9 => exact ⟨z, r9, rfl⟩
    refine w_iload_n (q := 3) aX1_copyLine_2 rfl rfl ?_
    refine w_aload_n (q := 4) aX1_copyLine_3 rfl rfl ?_
    refine w_get (q := 7) aX1_copyLine_4 f_1_19 (hb.1) rfl rfl ?_
    refine w_ic_ge (t := 25) (q := 10) aX1_copyLine_7 (by decide) rfl (fun c7 => ?_) (fun c7 => ?_)
    · exact absurd c7 (nI_ge hpl (by omega))
    · refine w_aload_n (q := 11) aX1_copyLine_10 rfl rfl ?_
      refine w_iload_n (q := 12) aX1_copyLine_11 rfl rfl ?_
      refine w_aload_n (q := 13) aX1_copyLine_12 rfl rfl ?_
      refine w_get (q := 16) aX1_copyLine_13 f_1_9 (hb.1) rfl rfl ?_
      refine w_iload_n (q := 17) aX1_copyLine_16 rfl rfl ?_
      refine w_iald (q := 18) aX1_copyLine_17 (hb.2.2.2.1) (hb.2.1) (mm_ix_at (v := .int y) rfl (by omega) (ints_at (by rw [hl]; simp))) rfl ?_
      refine w_iast (q := 19) (n := p.length) (vs' := ((p ++ [y]) ++ rr).map Value.int) aX1_copyLine_18 (h3) (rfl) (by simp) (by simp at h2 ⊢; omega) (by simp) rfl ?_
      refine w_iinc (q := 22) (ls' := [(2, _), (0, _), (1, _)]) aX1_copyLine_19 rfl rfl (by decide) rfl rfl ?_
      refine w_goto (t := 2) aX1_copyLine_22 (by decide) ?_
      have k := ih (p ++ [y]) rr (mm_up h rw9 (5, ((p ++ [y]) ++ rr).map Value.int)) (by rw [hl]; simp) ⟨(up_n hr0).trans hb.1, (up_n hr1).trans hb.2.1, hb.2.2⟩ (by simp at h1; exact h1) (by simp at h2 ⊢; omega) (up_s _ _ _)
      rw [show nI p.length + Int32.ofInt 1 = nI (p ++ [y]).length from by rw [List.length_append]; exact nI_1 _]
      exact k.imp (fun r h' hk => ⟨hk.1, hk.2.1, (fr.up (A := fun q => q = rw9) fr.rf rfl).tr hk.2.2⟩)
theorem c_copyLine {F : Nat} {h : mm_H} {b a rw9 : Nat} {l g rr : List Int32} {w : Int32} (hb : bl h b a l g w) (hr0 : ¬ b = rw9) (hr1 : ¬ a = rw9) (hrl : rr.length = 12) (hr : h.2.2 rw9 = some (5, rr.map Value.int)) : mW none F mX1_copyLine 0 [(0, .ref b), (1, .ref rw9)] [] h (fun r h' => r = some (.int (nI l.length)) ∧ (∃ rr', l.length + rr'.length = 12 ∧ h'.2.2 rw9 = some (5, (l ++ rr').map Value.int)) ∧ fr (fun q => q = rw9) h h') := by
  have hlen := hb.2.2.1
  refine w_iconst (v := 0) (q := 1) aX1_copyLine_0 rfl rfl ?_
  refine w_istore_n (q := 2) (ls' := [(2, _), (0, _), (1, _)]) aX1_copyLine_1 (by decide) rfl rfl ?_
  exact l_copyLine hr0 hr1 l [] rr h rfl hb (by omega) (by simp <;> omega) hr
