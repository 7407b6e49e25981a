/-! arrays by functions: rg n f is the row of f 0 .. f (n - 1) -/
def rg (n : Nat) (f : Nat → Value) : List Value := (List.range n).map f
def fu {α : Type} (f : Nat → α) (k : Nat) (x : α) : Nat → α := fun j => if j = k then x else f j
theorem fu_s {α : Type} {f : Nat → α} {k : Nat} {x : α} : fu f k x k = x := if_pos rfl
theorem fu_n {α : Type} {f : Nat → α} {k j : Nat} {x : α} (h : ¬ j = k) : fu f k x j = f j := if_neg h
theorem rg_len (n : Nat) (f : Nat → Value) : (rg n f).length = n := by simp [rg]
theorem rg_at {n : Nat} {f : Nat → Value} {j : Nat} (h : j < n) : (rg n f)[j]? = some (f j) := by simp [rg, h]
theorem rg_set (n : Nat) (f : Nat → Value) (k : Nat) (v : Value) : (rg n f).set k v = rg n (fu f k v) := by
  apply List.ext_getElem?
  intro j
  rw [List.getElem?_set]
  by_cases hj : j < n
  · rw [rg_at hj, rg_len, rg_at hj]
    unfold fu
    by_cases e : k = j
    · subst e
      simp [hj]
    · rw [if_neg e, if_neg (fun z => e z.symm)]
  · have e1 : (rg n f)[j]? = none := List.getElem?_eq_none (by rw [rg_len]; omega)
    have e2 : (rg n (fu f k v))[j]? = none := List.getElem?_eq_none (by rw [rg_len]; omega)
    rw [e1, e2, rg_len]
    by_cases e : k = j
    · subst e
      simp [hj]
    · rw [if_neg e]
theorem rg_congr {n : Nat} {f g : Nat → Value} (h : ∀ j, j < n → f j = g j) : rg n f = rg n g := by
  unfold rg
  exact List.map_congr_left (fun j hj => h j (List.mem_range.mp hj))
theorem fu_map {α β : Type} (g : α → β) (f : Nat → α) (k : Nat) (x : α) : fu (fun j => g (f j)) k (g x) = fun j => g (fu f k x j) := by
  funext j
  unfold fu
  by_cases h : j = k <;> simp [h]
/-! THE QUEUE: a ring of 20 places, its object at 4, its rows at 5 and 6 -/
def QR (h : mm_H) (qu : List (Int32 × Int64)) : Prop := ∃ (hd : Nat) (fb : Nat → Int32) (fv : Nat → Int64), h.2.2 4 = some (2, [.ref 5, .ref 6, .int (nI hd), .int (nI qu.length)]) ∧ h.2.2 5 = some (5, rg 20 (fun j => .int (fb j))) ∧ h.2.2 6 = some (6, rg 20 (fun j => .long (fv j))) ∧ hd < 20 ∧ qu.length ≤ 20 ∧ ∀ i e, qu[i]? = some e → fb ((hd + i) % 20) = e.1 ∧ fv ((hd + i) % 20) = e.2
def Aq (q : Nat) : Prop := q = 4 ∨ q = 5 ∨ q = 6
theorem c_qAppend {F : Nat} {h : mm_H} {qu : List (Int32 × Int64)} {b : Int32} {v : Int64} (hq : QR h qu) : mW none F mX2_append 0 [(0, .ref 4), (1, .int b), (2, .long v)] [] h (fun r h' => (qu.length = 20 ∧ r = some (.int 0) ∧ h = h') ∨ (qu.length < 20 ∧ r = some (.int 1) ∧ QR h' (qu ++ [(b, v)]) ∧ fr Aq h h')) := by
  obtain ⟨hd, fb, fv, h4, h5, h6, hhd, hlen, hq⟩ := hq
  refine w_aload_n (q := 1) aX2_append_0 rfl rfl ?_
  refine w_get (q := 4) aX2_append_1 f_2_19 (h4) rfl rfl ?_
  refine w_bipush (v := 20) (q := 6) aX2_append_4 rfl rfl ?_
  refine w_ic_lt (t := 11) (q := 9) aX2_append_6 (by decide) rfl (fun c6 => ?_) (fun c6 => ?_)
  · have hl : qu.length < 20 := by
      rcases Nat.lt_or_ge qu.length 20 with z | z
      · exact z
      · exact absurd c6 (nI_nlt (b := 20) z (by omega))
    have hm : (hd + qu.length) % 20 < 20 := Nat.mod_lt _ (by omega)
    refine w_aload_n (q := 12) aX2_append_11 rfl rfl ?_
    refine w_get (q := 15) aX2_append_12 f_2_23 (h4) rfl rfl ?_
    refine w_aload_n (q := 16) aX2_append_15 rfl rfl ?_
    refine w_get (q := 19) aX2_append_16 f_2_19 (h4) rfl rfl ?_
    refine w_iadd (q := 20) aX2_append_19 rfl ?_
    refine w_bipush (v := 20) (q := 22) aX2_append_20 rfl rfl ?_
    refine w_irem (q := 23) aX2_append_22 (by decide) rfl ?_
    refine w_istore (q := 25) (ls' := [(4, _), (0, _), (1, _), (2, _)]) aX2_append_23 (by decide) rfl rfl ?_
    refine w_aload_n (q := 26) aX2_append_25 rfl rfl ?_
    have em : nI hd + nI qu.length - (nI hd + nI qu.length) / 20 * 20 = nI ((hd + qu.length) % 20) := by
      rw [nI_add]
      exact pk_rem (d := 20) (by omega) (by omega) (by omega)
    rw [em]
    refine w_get (q := 29) aX2_append_26 f_2_9 (h4) rfl rfl ?_
    refine w_iload (q := 31) aX2_append_29 rfl rfl ?_
    refine w_iload_n (q := 32) aX2_append_31 rfl rfl ?_
    refine w_iast (q := 33) (n := (hd + qu.length) % 20) (vs' := _) aX2_append_32 (h5) (rfl) (by rw [rg_len]; exact hm) (by rw [rg_len]; omega) (rg_set _ _ _ _) rfl ?_
    refine w_aload_n (q := 34) aX2_append_33 rfl rfl ?_
    refine w_get (q := 37) aX2_append_34 f_2_15 ((up_n (by decide)).trans h4) rfl rfl ?_
    refine w_iload (q := 39) aX2_append_37 rfl rfl ?_
    refine w_lload_n (q := 40) aX2_append_39 rfl rfl ?_
    refine w_last (q := 41) (n := (hd + qu.length) % 20) (vs' := _) aX2_append_40 ((up_n (by decide)).trans h6) (rfl) (by rw [rg_len]; exact hm) (by rw [rg_len]; omega) (rg_set _ _ _ _) rfl ?_
    refine w_aload_n (q := 42) aX2_append_41 rfl rfl ?_
    refine w_dup (q := 43) aX2_append_42 rfl rfl ?_
    refine w_get (q := 46) aX2_append_43 f_2_19 ((up_n (by decide)).trans ((up_n (by decide)).trans h4)) rfl rfl ?_
    refine w_iconst (v := 1) (q := 47) aX2_append_46 rfl rfl ?_
    refine w_iadd (q := 48) aX2_append_47 rfl ?_
    refine w_put (q := 51) (fs' := [_, _, _, _]) aX2_append_48 f_2_19 ((up_n (by decide)).trans ((up_n (by decide)).trans h4)) (Nat.le_of_ble_eq_true rfl) rfl rfl (Or.inl rfl) rfl rfl ?_
    refine w_iconst (v := 1) (q := 52) aX2_append_51 rfl rfl ?_
    refine w_zret aX2_append_52 rfl (Or.inr rfl) ?_
    refine Or.inr ⟨hl, rfl, ⟨hd, fu fb ((hd + qu.length) % 20) b, fu fv ((hd + qu.length) % 20) v, ?_, ?_, ?_, hhd, by simp; omega, ?_⟩, ?_⟩
    · rw [up_s]
      simp only [List.length_append, List.length_cons, List.length_nil]
      rw [nI_1]
    · rw [up_n (by decide), up_n (by decide), up_s, fu_map Value.int]
    · rw [up_n (by decide), up_s, fu_map Value.long]
    · intro i e he
      by_cases hi : i < qu.length
      · rw [List.getElem?_append_left hi] at he
        have hne : ¬ (hd + i) % 20 = (hd + qu.length) % 20 := by omega
        rw [fu_n hne, fu_n hne]
        exact hq i e he
      · have hi2 : i = qu.length := by
          have := (List.getElem?_eq_some_iff.mp he).1
          simp at this
          omega
        subst hi2
        rw [List.getElem?_append_right (Nat.le_refl _)] at he
        simp at he
        subst he
        rw [fu_s, fu_s]
        exact ⟨rfl, rfl⟩
    · exact ((fr.rf.up (Or.inr (Or.inl rfl))).up (Or.inr (Or.inr rfl))).up (Or.inl rfl)
  · refine w_iconst (v := 0) (q := 10) aX2_append_9 rfl rfl ?_
    refine w_zret aX2_append_10 rfl (Or.inl rfl) ?_
    refine Or.inl ⟨?_, rfl, rfl⟩
    rcases Nat.lt_or_ge qu.length 20 with z | z
    · exact absurd (nI_lt (b := 20) z (by omega)) c6
    · omega
theorem c_bellAt {F : Nat} {h : mm_H} {qu : List (Int32 × Int64)} {x : Int32} (hq : QR h qu) : mW none F mX2_bellAt 0 [(0, .ref 4), (1, .int x)] [] h (fun r h' => r = some (.int (if x < 0 then -1 else ((qu[x.toNatClampNeg]?).map (fun e => e.1)).getD (-1))) ∧ h = h') := by
  obtain ⟨hd, fb, fv, h4, h5, h6, hhd, hlen, hq⟩ := hq
  refine w_iload_n (q := 1) aX2_bellAt_0 rfl rfl ?_
  refine w_if_lt (t := 29) (q := 4) aX2_bellAt_1 (by decide) rfl (fun c1 => ?_) (fun c1 => ?_)
  · refine w_iconst (v := -1) (q := 30) aX2_bellAt_29 rfl rfl ?_
    refine w_iret aX2_bellAt_30 rfl ?_
    exact ⟨by rw [if_pos c1], rfl⟩
  · obtain ⟨j, hj, rfl⟩ := nI_of c1
    refine w_iload_n (q := 5) aX2_bellAt_4 rfl rfl ?_
    refine w_aload_n (q := 6) aX2_bellAt_5 rfl rfl ?_
    refine w_get (q := 9) aX2_bellAt_6 f_2_19 (h4) rfl rfl ?_
    refine w_ic_ge (t := 29) (q := 12) aX2_bellAt_9 (by decide) rfl (fun c9 => ?_) (fun c9 => ?_)
    · refine w_iconst (v := -1) (q := 30) aX2_bellAt_29 rfl rfl ?_
      refine w_iret aX2_bellAt_30 rfl ?_
      have : qu.length ≤ j := (nI_leI (by omega) hj).mp c9
      refine ⟨?_, rfl⟩
      rw [if_neg c1, nI_clamp hj, List.getElem?_eq_none this]
      rfl
    · have hjl : j < qu.length := by
        rcases Nat.lt_or_ge j qu.length with z | z
        · exact z
        · exact absurd (nI_le z hj) c9
      have hm : (hd + j) % 20 < 20 := Nat.mod_lt _ (by omega)
      have em : nI hd + nI j - (nI hd + nI j) / 20 * 20 = nI ((hd + j) % 20) := by
        rw [nI_add]
        exact pk_rem (d := 20) (by omega) (by omega) (by omega)
      refine w_aload_n (q := 13) aX2_bellAt_12 rfl rfl ?_
      refine w_get (q := 16) aX2_bellAt_13 f_2_9 (h4) rfl rfl ?_
      refine w_aload_n (q := 17) aX2_bellAt_16 rfl rfl ?_
      refine w_get (q := 20) aX2_bellAt_17 f_2_23 (h4) rfl rfl ?_
      refine w_iload_n (q := 21) aX2_bellAt_20 rfl rfl ?_
      refine w_iadd (q := 22) aX2_bellAt_21 rfl ?_
      refine w_bipush (v := 20) (q := 24) aX2_bellAt_22 rfl rfl ?_
      refine w_irem (q := 25) aX2_bellAt_24 (by decide) rfl ?_
      rw [em]
      refine w_iald (q := 26) aX2_bellAt_25 (by decide) (h5) (mm_ix_at (n := (hd + j) % 20) rfl (by omega) (rg_at hm)) rfl ?_
      refine w_goto (t := 30) aX2_bellAt_26 (by decide) ?_
      refine w_iret aX2_bellAt_30 rfl ?_
      refine ⟨?_, rfl⟩
      rw [if_neg c1, nI_clamp hj, List.getElem?_eq_getElem hjl, (hq j _ (List.getElem?_eq_getElem hjl)).1]
      rfl
theorem c_firstBell {F : Nat} {h : mm_H} {e : Int32 × Int64} {qu : List (Int32 × Int64)} (hq : QR h (e :: qu)) : mW none F mX2_firstBell 0 [(0, .ref 4)] [] h (fun r h' => r = some (.int e.1) ∧ h = h') := by
  obtain ⟨hd, fb, fv, h4, h5, h6, hhd, hlen, hq⟩ := hq
  have h0 := hq 0 e rfl
  rw [Nat.add_zero, Nat.mod_eq_of_lt hhd] at h0
  refine w_aload_n (q := 1) aX2_firstBell_0 rfl rfl ?_
  refine w_get (q := 4) aX2_firstBell_1 f_2_9 (h4) rfl rfl ?_
  refine w_aload_n (q := 5) aX2_firstBell_4 rfl rfl ?_
  refine w_get (q := 8) aX2_firstBell_5 f_2_23 (h4) rfl rfl ?_
  refine w_iald (q := 9) aX2_firstBell_8 (by decide) (h5) (mm_ix_at (n := hd) rfl (by omega) (rg_at hhd)) rfl ?_
  refine w_iret aX2_firstBell_9 rfl ?_
  exact ⟨by rw [h0.1], rfl⟩
theorem c_firstValue {F : Nat} {h : mm_H} {e : Int32 × Int64} {qu : List (Int32 × Int64)} (hq : QR h (e :: qu)) : mW none F mX2_firstValue 0 [(0, .ref 4)] [] h (fun r h' => r = some (.long e.2) ∧ h = h') := by
  obtain ⟨hd, fb, fv, h4, h5, h6, hhd, hlen, hq⟩ := hq
  have h0 := hq 0 e rfl
  rw [Nat.add_zero, Nat.mod_eq_of_lt hhd] at h0
  refine w_aload_n (q := 1) aX2_firstValue_0 rfl rfl ?_
  refine w_get (q := 4) aX2_firstValue_1 f_2_15 (h4) rfl rfl ?_
  refine w_aload_n (q := 5) aX2_firstValue_4 rfl rfl ?_
  refine w_get (q := 8) aX2_firstValue_5 f_2_23 (h4) rfl rfl ?_
  refine w_lald (q := 9) aX2_firstValue_8 (h6) (mm_ix_at (n := hd) rfl (by omega) (rg_at hhd)) rfl ?_
  refine w_lret aX2_firstValue_9 rfl ?_
  exact ⟨by rw [h0.2], rfl⟩
theorem c_dropFirst {F : Nat} {h : mm_H} {e : Int32 × Int64} {qu : List (Int32 × Int64)} (hq : QR h (e :: qu)) : mW none F mX2_dropFirst 0 [(0, .ref 4)] [] h (fun r h' => r = none ∧ QR h' qu ∧ fr Aq h h') := by
  obtain ⟨hd, fb, fv, h4, h5, h6, hhd, hlen, hq⟩ := hq
  simp only [List.length_cons] at hlen h4
  refine w_aload_n (q := 1) aX2_dropFirst_0 rfl rfl ?_
  refine w_get (q := 4) aX2_dropFirst_1 f_2_19 (h4) rfl rfl ?_
  refine w_if_le (t := 30) (q := 7) aX2_dropFirst_4 (by decide) rfl (fun c4 => ?_) (fun c4 => ?_)
  · exact absurd c4 (nI_nle (by omega) (by omega))
  · have em : nI hd + 1 - (nI hd + 1) / 20 * 20 = nI ((hd + 1) % 20) := by
      rw [nI_1]
      exact pk_rem (d := 20) (by omega) (by omega) (by omega)
    refine w_aload_n (q := 8) aX2_dropFirst_7 rfl rfl ?_
    refine w_aload_n (q := 9) aX2_dropFirst_8 rfl rfl ?_
    refine w_get (q := 12) aX2_dropFirst_9 f_2_23 (h4) rfl rfl ?_
    refine w_iconst (v := 1) (q := 13) aX2_dropFirst_12 rfl rfl ?_
    refine w_iadd (q := 14) aX2_dropFirst_13 rfl ?_
    refine w_bipush (v := 20) (q := 16) aX2_dropFirst_14 rfl rfl ?_
    refine w_irem (q := 17) aX2_dropFirst_16 (by decide) rfl ?_
    rw [em]
    refine w_put (q := 20) (fs' := [_, _, _, _]) aX2_dropFirst_17 f_2_23 (h4) (Nat.le_of_ble_eq_true rfl) rfl rfl (Or.inl rfl) rfl rfl ?_
    refine w_aload_n (q := 21) aX2_dropFirst_20 rfl rfl ?_
    refine w_dup (q := 22) aX2_dropFirst_21 rfl rfl ?_
    refine w_get (q := 25) aX2_dropFirst_22 f_2_19 (up_s _ _ _) rfl rfl ?_
    refine w_iconst (v := 1) (q := 26) aX2_dropFirst_25 rfl rfl ?_
    refine w_isub (q := 27) aX2_dropFirst_26 rfl ?_
    refine w_put (q := 30) (fs' := [_, _, _, _]) aX2_dropFirst_27 f_2_19 (up_s _ _ _) (Nat.le_of_ble_eq_true rfl) rfl rfl (Or.inl rfl) rfl rfl ?_
    refine w_vret aX2_dropFirst_30 rfl ?_
    refine ⟨rfl, ⟨(hd + 1) % 20, fb, fv, ?_, ?_, ?_, Nat.mod_lt _ (by omega), by omega, ?_⟩, (fr.rf.up (Or.inl rfl)).up (Or.inl rfl)⟩
    · rw [up_s, nI_pred]
    · rw [up_n (by decide), up_n (by decide), h5]
    · rw [up_n (by decide), up_n (by decide), h6]
    · intro i e9 he
      have := hq (i + 1) e9 he
      rw [show ((hd + 1) % 20 + i) % 20 = (hd + (i + 1)) % 20 by omega]
      exact this
