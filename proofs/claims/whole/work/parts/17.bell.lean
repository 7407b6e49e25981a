/-! A BELL: its object at b, its row at a; l its line, g what lies behind it in the row -/
def bl (h : mm_H) (b a : Nat) (l g : List Int32) (w : Int32) : Prop := h.2.2 b = some (1, [.ref a, .int (nI l.length), .int w]) ∧ h.2.2 a = some (5, (l ++ g).map Value.int) ∧ l.length + g.length = 12 ∧ ¬ a = 0 ∧ ¬ b = a
/-- the place of x in l, or -1 -/
def pls (l : List Int32) (x : Int32) : Int32 := if x ∈ l then nI (l.idxOf x) else -1
theorem pls_no {l : List Int32} {x : Int32} (h : x ∉ l) : pls l x = -1 := if_neg h
theorem pls_at {p q : List Int32} {x : Int32} (h : x ∉ p) : pls (p ++ x :: q) x = nI p.length := by
  unfold pls
  rw [if_pos (by simp), List.idxOf_append, if_neg h]
  simp
theorem ints_at {l : List Int32} {n : Nat} {x : Int32} (h : l[n]? = some x) : (l.map Value.int)[n]? = some (.int x) := by rw [List.getElem?_map, h]; rfl
theorem l_placeOf {F : Nat} {h : mm_H} {b a : Nat} {l g : List Int32} {w x : Int32} (hb : bl h b a l g w) : ∀ (q p : List Int32), l = p ++ q → x ∉ p → mW none F mX1_placeOf 2 [(2, .int (nI p.length)), (0, .ref b), (1, .int x)] [] h (fun r h' => r = some (.int (pls l x)) ∧ h = h') := by
  have hlen := hb.2.2.1
  intro q
  induction q with
  | nil =>
    intro p hl hx
    rw [List.append_nil] at hl
    refine w_iload_n (q := 3) aX1_placeOf_2 rfl rfl ?_
    refine w_aload_n (q := 4) aX1_placeOf_3 rfl rfl ?_
    refine w_get (q := 7) aX1_placeOf_4 f_1_19 (hb.1) rfl rfl ?_
    refine w_ic_ge (t := 28) (q := 10) aX1_placeOf_7 (by decide) rfl (fun c7 => ?_) (fun c7 => ?_)
    · refine w_iconst (v := -1) (q := 29) aX1_placeOf_28 rfl rfl ?_
      refine w_iret aX1_placeOf_29 rfl ?_
      exact ⟨by rw [pls_no (by rw [hl]; exact hx)], rfl⟩
    · exact absurd (by rw [hl]; exact nI_le (Nat.le_refl _) (by rw [hl] at hlen; omega)) c7
  | cons y q ih =>
    intro p hl hx
    have hpl : p.length < l.length := by rw [hl]; simp
    refine w_iload_n (q := 3) aX1_placeOf_2 rfl rfl ?_
    refine w_aload_n (q := 4) aX1_placeOf_3 rfl rfl ?_
    refine w_get (q := 7) aX1_placeOf_4 f_1_19 (hb.1) rfl rfl ?_
    refine w_ic_ge (t := 28) (q := 10) aX1_placeOf_7 (by decide) rfl (fun c7 => ?_) (fun c7 => ?_)
    · exact absurd c7 (nI_ge hpl (by omega))
    · refine w_aload_n (q := 11) aX1_placeOf_10 rfl rfl ?_
      refine w_get (q := 14) aX1_placeOf_11 f_1_9 (hb.1) rfl rfl ?_
      refine w_iload_n (q := 15) aX1_placeOf_14 rfl rfl ?_
      refine w_iald (q := 16) aX1_placeOf_15 (hb.2.2.2.1) (hb.2.1) (mm_ix_at (v := .int y) rfl (by omega) (ints_at (by rw [hl]; simp))) rfl ?_
      refine w_iload_n (q := 17) aX1_placeOf_16 rfl rfl ?_
      refine w_ic_ne (t := 22) (q := 20) aX1_placeOf_17 (by decide) rfl (fun c17 => ?_) (fun c17 => ?_)
      · refine w_iinc (q := 25) (ls' := [(2, _), (0, _), (1, _)]) aX1_placeOf_22 rfl rfl (by decide) rfl rfl ?_
        refine w_goto (t := 2) aX1_placeOf_25 (by decide) ?_
        have := ih (p ++ [y]) (by rw [hl]; simp) (by simp only [List.mem_append, List.mem_singleton]; exact fun z => z.elim hx (fun z => c17 z.symm))
        rw [List.length_append] at this
        rw [show nI p.length + Int32.ofInt 1 = nI (p.length + [y].length) from (nI_1 p.length)]
        exact this
      · refine w_iload_n (q := 21) aX1_placeOf_20 rfl rfl ?_
        refine w_iret aX1_placeOf_21 rfl ?_
        subst c17
        exact ⟨by rw [hl, pls_at hx], rfl⟩
theorem c_placeOf {F : Nat} {h : mm_H} {b a : Nat} {l g : List Int32} {w x : Int32} (hb : bl h b a l g w) : mW none F mX1_placeOf 0 [(0, .ref b), (1, .int x)] [] h (fun r h' => r = some (.int (pls l x)) ∧ h = h') := by
  refine w_iconst (v := 0) (q := 1) aX1_placeOf_0 rfl rfl ?_
  refine w_istore_n (q := 2) (ls' := [(2, _), (0, _), (1, _)]) aX1_placeOf_1 (by decide) rfl rfl ?_
  exact l_placeOf hb l [] rfl (by simp)
