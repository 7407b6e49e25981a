theorem m12 (b k : Nat) : (12 : Int32) * nI b + nI k = nI (12 * b + k) := by
  rw [show (12 : Int32) = nI 12 from rfl, pk_mul, nI_add]
theorem pls_snoc {p : List Int32} {y x : Int32} (hn : (p ++ [y]).Nodup) : pls (p ++ [y]) x = if y = x then nI p.length else pls p x := by
  by_cases e : y = x
  · subst e
    rw [if_pos rfl]
    exact pls_at (q := []) (fun z => by rw [List.nodup_append] at hn; exact hn.2.2 _ z _ (by simp) rfl)
  · rw [if_neg e]
    unfold pls
    by_cases h : x ∈ p
    · rw [if_pos h, if_pos (by simp [h]), List.idxOf_append, if_pos h]
    · rw [if_neg h, if_neg (by simp [h]; exact fun z => e z.symm)]
theorem m_placeOf {F : Nat} {h : mm_H} {S : St} {n : Nat} {X : Xs} {w : Raw} {x : Int32} {b : Nat} (hb : b < 6) (hm : hM S n X w h) (r1 : rLn S w.1) : ∀ (q p : List Int32), sL S b = p ++ q → mW none F mX4_placeOf 5 [(4, .int (nI p.length)), (3, .int (pls p x)), (0, .ref 32), (1, .int x), (2, .int (nI b))] [] h (fun r h' => r = some (.int (pls (sL S b) x)) ∧ h = h') := by
  obtain ⟨hl12, hnd, hat⟩ := r1 b hb
  intro q
  induction q with
  | nil =>
    intro p hl
    rw [List.append_nil] at hl
    refine w_iload (q := 7) aX4_placeOf_5 rfl rfl ?_
    refine w_aload_n (q := 8) aX4_placeOf_7 rfl rfl ?_
    refine w_get (q := 11) aX4_placeOf_8 f_4_20 (hm 32 (by decide) (by decide)) rfl rfl ?_
    refine w_iload_n (q := 12) aX4_placeOf_11 rfl rfl ?_
    refine w_iald (q := 13) aX4_placeOf_12 (by decide) (hm 36 (by decide) (by decide)) (mm_ix_at (n := b) rfl (by omega) (rg_at hb)) rfl ?_
    refine w_ic_ge (t := 45) (q := 16) aX4_placeOf_13 (by decide) rfl (fun c13 => ?_) (fun c13 => ?_)
    · refine w_iload_n (q := 46) aX4_placeOf_45 rfl rfl ?_
      refine w_iret aX4_placeOf_46 rfl ?_
      exact ⟨by rw [hl], rfl⟩
    · exact absurd (by rw [hl]; exact nI_le (Nat.le_refl _) (by rw [hl] at hl12; omega)) c13
  | cons y q ih =>
    intro p hl
    have hpl : p.length < (sL S b).length := by rw [hl]; simp
    have hnd2 : (p ++ [y]).Nodup := by
      rw [hl] at hnd
      have : p ++ y :: q = (p ++ [y]) ++ q := by simp
      rw [this, List.nodup_append] at hnd
      exact hnd.1
    have k9 := ih (p ++ [y]) (by rw [hl]; simp)
    rw [pls_snoc hnd2, List.length_append] at k9
    refine w_iload (q := 7) aX4_placeOf_5 rfl rfl ?_
    refine w_aload_n (q := 8) aX4_placeOf_7 rfl rfl ?_
    refine w_get (q := 11) aX4_placeOf_8 f_4_20 (hm 32 (by decide) (by decide)) rfl rfl ?_
    refine w_iload_n (q := 12) aX4_placeOf_11 rfl rfl ?_
    refine w_iald (q := 13) aX4_placeOf_12 (by decide) (hm 36 (by decide) (by decide)) (mm_ix_at (n := b) rfl (by omega) (rg_at hb)) rfl ?_
    refine w_ic_ge (t := 45) (q := 16) aX4_placeOf_13 (by decide) rfl (fun c13 => ?_) (fun c13 => ?_)
    · exact absurd c13 (nI_ge hpl (by omega))
    · refine w_aload_n (q := 17) aX4_placeOf_16 rfl rfl ?_
      refine w_get (q := 20) aX4_placeOf_17 f_4_17 (hm 32 (by decide) (by decide)) rfl rfl ?_
      refine w_bipush (v := 12) (q := 22) aX4_placeOf_20 rfl rfl ?_
      refine w_iload_n (q := 23) aX4_placeOf_22 rfl rfl ?_
      refine w_imul (q := 24) aX4_placeOf_23 rfl ?_
      refine w_iload (q := 26) aX4_placeOf_24 rfl rfl ?_
      refine w_iadd (q := 27) aX4_placeOf_26 rfl ?_
      rw [m12]
      refine w_iald (q := 28) aX4_placeOf_27 (by decide) (hm 35 (by decide) (by decide)) (mm_ix_at (n := 12 * b + p.length) rfl (by omega) (rg_at (by omega))) rfl ?_
      rw [hat p.length y (by rw [hl]; simp)]
      refine w_iload_n (q := 29) aX4_placeOf_28 rfl rfl ?_
      refine w_ic_ne (t := 37) (q := 32) aX4_placeOf_29 (by decide) rfl (fun c29 => ?_) (fun c29 => ?_)
      · rw [if_neg c29] at k9
        refine w_iload_n (q := 38) aX4_placeOf_37 rfl rfl ?_
        refine w_istore_n (q := 39) (ls' := [(3, _), (4, _), (0, _), (1, _), (2, _)]) aX4_placeOf_38 (by decide) rfl rfl ?_
        refine w_iinc (q := 42) (ls' := [(4, _), (3, _), (0, _), (1, _), (2, _)]) aX4_placeOf_39 rfl rfl (by decide) rfl rfl ?_
        refine w_goto (t := 5) aX4_placeOf_42 (by decide) ?_
        rw [show nI p.length + Int32.ofInt 1 = nI (p.length + [y].length) from nI_1 _]
        exact k9
      · rw [if_pos c29] at k9
        refine w_iload (q := 34) aX4_placeOf_32 rfl rfl ?_
        refine w_goto (t := 38) aX4_placeOf_34 (by decide) ?_
        refine w_istore_n (q := 39) (ls' := [(3, _), (4, _), (0, _), (1, _), (2, _)]) aX4_placeOf_38 (by decide) rfl rfl ?_
        refine w_iinc (q := 42) (ls' := [(4, _), (3, _), (0, _), (1, _), (2, _)]) aX4_placeOf_39 rfl rfl (by decide) rfl rfl ?_
        refine w_goto (t := 5) aX4_placeOf_42 (by decide) ?_
        rw [show nI p.length + Int32.ofInt 1 = nI (p.length + [y].length) from nI_1 _]
        exact k9
theorem d_placeOf {F : Nat} {h : mm_H} {S : St} {n : Nat} {X : Xs} {w : Raw} {x : Int32} {b : Nat} (hb : b < 6) (hm : hM S n X w h) (r1 : rLn S w.1) : mW none F mX4_placeOf 0 [(0, .ref 32), (1, .int x), (2, .int (nI b))] [] h (fun r h' => r = some (.int (pls (sL S b) x)) ∧ h = h') := by
  refine w_iconst (v := -1) (q := 1) aX4_placeOf_0 rfl rfl ?_
  refine w_istore_n (q := 2) (ls' := [(3, _), (0, _), (1, _), (2, _)]) aX4_placeOf_1 (by decide) rfl rfl ?_
  refine w_iconst (v := 0) (q := 3) aX4_placeOf_2 rfl rfl ?_
  refine w_istore (q := 5) (ls' := [(4, _), (3, _), (0, _), (1, _), (2, _)]) aX4_placeOf_3 (by decide) rfl rfl ?_
  exact m_placeOf hb hm r1 (sL S b) [] rfl
theorem fu_len {f : Nat → List Int32} {b : Nat} {l : List Int32} : fu (fun j => Value.int (nI (f j).length)) b (.int (nI l.length)) = fun j => Value.int (nI (fu f b l j).length) := fu_map (fun z : List Int32 => Value.int (nI z.length)) f b l
theorem rLn.put {S : St} {li : Nat → Int32} {b : Nat} {x : Int32} (hb : b < 6) (hl : (sL S b).length < 12) (hx : x ∉ sL S b) (h : rLn S li) : rLn (uL S (fu (sL S) b (sL S b ++ [x]))) (fu li (12 * b + (sL S b).length) x) := by
  intro k hk
  show (fu (sL S) b (sL S b ++ [x]) k).length ≤ 12 ∧ (fu (sL S) b (sL S b ++ [x]) k).Nodup ∧ ∀ i y, (fu (sL S) b (sL S b ++ [x]) k)[i]? = some y → _
  by_cases e : k = b
  · subst e
    rw [fu_s]
    refine ⟨by simp; omega, ?_, fun i y hy => ?_⟩
    · rw [List.nodup_append]
      refine ⟨(h k hk).2.1, by simp, fun a ha c hc => ?_⟩
      rw [List.mem_singleton.mp hc]
      exact fun z => hx (z ▸ ha)
    · by_cases hi : i < (sL S k).length
      · rw [List.getElem?_append_left hi] at hy
        rw [fu_n (by omega)]
        exact (h k hk).2.2 i y hy
      · have hi2 : i = (sL S k).length := by
          have := (List.getElem?_eq_some_iff.mp hy).1
          simp at this
          omega
        subst hi2
        rw [fu_s]
        simpa using hy
  · rw [fu_n e]
    refine ⟨(h k hk).1, (h k hk).2.1, fun i y hy => ?_⟩
    have hi := (List.getElem?_eq_some_iff.mp hy).1
    have := (h k hk).1
    rw [fu_n (by omega)]
    exact (h k hk).2.2 i y hy
theorem d_put {F : Nat} {h : mm_H} {S : St} {P : List Fr} {X : Xs} {x : Int32} {b : Nat} (hb : b < 6) (hl : (sL S b).length < 12) (hx : x ∉ sL S b) (hR : RM S P X h) : mW none F mX4_put 0 [(0, .ref 32), (1, .int x), (2, .int (nI b))] [] h (fun r h' => r = none ∧ RM (uL S (fu (sL S) b (sL S b ++ [x]))) P X h' ∧ fr AM h h') := by
  obtain ⟨w, hm, r1, r2, r3, r4⟩ := hR
  refine w_aload_n (q := 1) aX4_put_0 rfl rfl ?_
  refine w_get (q := 4) aX4_put_1 f_4_17 (hm 32 (by decide) (by decide)) rfl rfl ?_
  refine w_bipush (v := 12) (q := 6) aX4_put_4 rfl rfl ?_
  refine w_iload_n (q := 7) aX4_put_6 rfl rfl ?_
  refine w_imul (q := 8) aX4_put_7 rfl ?_
  refine w_aload_n (q := 9) aX4_put_8 rfl rfl ?_
  refine w_get (q := 12) aX4_put_9 f_4_20 (hm 32 (by decide) (by decide)) rfl rfl ?_
  refine w_iload_n (q := 13) aX4_put_12 rfl rfl ?_
  refine w_iald (q := 14) aX4_put_13 (by decide) (hm 36 (by decide) (by decide)) (mm_ix_at (n := b) rfl (by omega) (rg_at hb)) rfl ?_
  refine w_iadd (q := 15) aX4_put_14 rfl ?_
  refine w_iload_n (q := 16) aX4_put_15 rfl rfl ?_
  rw [m12]
  refine w_iast (q := 17) (n := 12 * b + (sL S b).length) (vs' := _) aX4_put_16 (hm 35 (by decide) (by decide)) (rfl) (by rw [rg_len]; omega) (by rw [rg_len]; omega) (rg_set _ _ _ _) rfl ?_
  refine w_aload_n (q := 18) aX4_put_17 rfl rfl ?_
  refine w_get (q := 21) aX4_put_18 f_4_20 (hm 32 (by decide) (by decide)) rfl rfl ?_
  refine w_iload_n (q := 22) aX4_put_21 rfl rfl ?_
  refine w_dup2 (q := 23) aX4_put_22 ⟨rfl, rfl⟩ rfl ?_
  refine w_iald (q := 24) aX4_put_23 (by decide) (hm 36 (by decide) (by decide)) (mm_ix_at (n := b) rfl (by omega) (rg_at hb)) rfl ?_
  refine w_iconst (v := 1) (q := 25) aX4_put_24 rfl rfl ?_
  refine w_iadd (q := 26) aX4_put_25 rfl ?_
  refine w_iast (q := 27) (n := b) (vs' := _) aX4_put_26 (hm 36 (by decide) (by decide)) (rfl) (by rw [rg_len]; omega) (by rw [rg_len]; omega) (rg_set _ _ _ _) rfl ?_
  refine w_vret aX4_put_27 rfl ?_
  have e36 : rg 6 (fu (fun j => Value.int (nI (sL S j).length)) b (.int (nI (sL S b).length + 1))) = rg 6 (fun j => .int (nI (fu (sL S) b (sL S b ++ [x]) j).length)) := by
    rw [← fu_len, List.length_append, nI_1]
    rfl
  refine ⟨rfl, ⟨(fu w.1 (12 * b + (sL S b).length) x, w.2), ?_, r1.put hb hl hx, r2, r3, r4⟩, (fr.rf.up (AM_l (by omega))).up (AM_l (by omega))⟩
  intro q h1 h2
  rcases q23 q h1 h2 with rfl | rfl | rfl | rfl | rfl | rfl | rfl | rfl | rfl | rfl | rfl | rfl | rfl | rfl | rfl | rfl | rfl | rfl | rfl | rfl | rfl | rfl | rfl <;> first | exact hm _ h1 h2 | exact congrArg (fun z => some ((5 : Nat), z)) e36 | exact congrArg (fun z => some ((5 : Nat), rg 72 z)) (fu_map Value.int w.1 _ x) |  rfl
