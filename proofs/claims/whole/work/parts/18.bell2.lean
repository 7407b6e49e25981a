/-- only the cells that A names have changed, and nothing is new -/
def fr (A : Nat → Prop) (h h' : mm_H) : Prop := h'.1 = h.1 ∧ h'.2.1 = h.2.1 ∧ ∀ q, ¬ A q → h'.2.2 q = h.2.2 q
theorem fr.rf {A : Nat → Prop} {h : mm_H} : fr A h h := ⟨rfl, rfl, fun _ _ => rfl⟩
theorem fr.up {A : Nat → Prop} {h h' : mm_H} {a : Nat} {c : mm_C} (hf : fr A h h') (ha : A a) : fr A h (mm_up h' a c) := ⟨hf.1, hf.2.1, fun q hq => (up_n (fun e => hq (by rw [e]; exact ha))).trans (hf.2.2 q hq)⟩
theorem fr.tr {A : Nat → Prop} {h h1 h2 : mm_H} (h01 : fr A h h1) (h12 : fr A h1 h2) : fr A h h2 := ⟨h12.1.trans h01.1, h12.2.1.trans h01.2.1, fun q hq => (h12.2.2 q hq).trans (h01.2.2 q hq)⟩
theorem fr.mono {A A' : Nat → Prop} {h h1 : mm_H} (h01 : fr A h h1) (ha : ∀ q, A q → A' q) : fr A' h h1 := ⟨h01.1, h01.2.1, fun q hq => h01.2.2 q (fun z => hq (ha q z))⟩
theorem this_at {h : mm_H} {n k a : Nat} {st fs : List Value} (hs : st[n]? = some (.ref a)) (hc : h.2.2 a = some (k, fs)) : mm_this h n k st = true := by
  unfold mm_this
  rw [hs]
  dsimp only
  rw [hc]
  simp
theorem pls_m1 {l : List Int32} {x : Int32} (hl : l.length < 2 ^ 31) : pls l x = -1 ↔ x ∉ l := by
  unfold pls
  by_cases h : x ∈ l
  · rw [if_pos h]
    have h2 := List.idxOf_lt_length_iff.mpr h
    constructor
    · intro e
      have := nI_pos (n := l.idxOf x) (by omega)
      rw [e] at this
      exact absurd (by decide) this
    · exact fun z => absurd h z
  · rw [if_neg h]
    exact ⟨fun _ => h, fun _ => rfl⟩
theorem c_append {F : Nat} {h : mm_H} {b a : Nat} {l g : List Int32} {w x : Int32} (hb : bl h b a l g w) : mW none (F + 1) mX1_append 0 [(0, .ref b), (1, .int x)] [] h (fun r h' => (x ∈ l ∧ r = some (.int (-1)) ∧ h = h') ∨ (x ∉ l ∧ l.length = 12 ∧ r = some (.int (-3)) ∧ h = h') ∨ (x ∉ l ∧ l.length < 12 ∧ r = some (.int (nI l.length)) ∧ (∃ g', bl h' b a (l ++ [x]) g' w) ∧ fr (fun q => q = b ∨ q = a) h h')) := by
  have hlen := hb.2.2.1
  refine w_aload_n (q := 1) aX1_append_0 rfl rfl ?_
  refine w_iload_n (q := 2) aX1_append_1 rfl rfl ?_
  refine w_callV aX1_append_2 t_1_22 (this_at rfl hb.1) (rfl) (c_placeOf hb) (fun r2 h2 hp => ?_)
  obtain ⟨rfl, rfl⟩ := hp
  refine w_iconst (v := -1) (q := 6) aX1_append_5 rfl rfl ?_
  refine w_ic_eq (t := 11) (q := 9) aX1_append_6 (by decide) rfl (fun c6 => ?_) (fun c6 => ?_)
  · have hx := (pls_m1 (by omega)).mp c6
    refine w_aload_n (q := 12) aX1_append_11 rfl rfl ?_
    refine w_get (q := 15) aX1_append_12 f_1_19 (hb.1) rfl rfl ?_
    refine w_bipush (v := 12) (q := 17) aX1_append_15 rfl rfl ?_
    refine w_ic_lt (t := 23) (q := 20) aX1_append_17 (by decide) rfl (fun c17 => ?_) (fun c17 => ?_)
    · have hl12 : l.length < 12 := by
        rcases Nat.lt_or_ge l.length 12 with z | z
        · exact z
        · exact absurd c17 (nI_nlt (b := 12) z (by omega))
      obtain ⟨y, g', rfl⟩ : ∃ y g', g = y :: g' := by
        cases g with
        | nil => simp at hlen; omega
        | cons y g' => exact ⟨y, g', rfl⟩
      refine w_aload_n (q := 24) aX1_append_23 rfl rfl ?_
      refine w_get (q := 27) aX1_append_24 f_1_9 (hb.1) rfl rfl ?_
      refine w_aload_n (q := 28) aX1_append_27 rfl rfl ?_
      refine w_get (q := 31) aX1_append_28 f_1_19 (hb.1) rfl rfl ?_
      refine w_iload_n (q := 32) aX1_append_31 rfl rfl ?_
      refine w_iast (q := 33) (n := l.length) (vs' := ((l ++ [x]) ++ g').map Value.int) aX1_append_32 (hb.2.1) (rfl) (by simp) (by simp at hlen ⊢; omega) (by simp) rfl ?_
      refine w_aload_n (q := 34) aX1_append_33 rfl rfl ?_
      refine w_dup (q := 35) aX1_append_34 rfl rfl ?_
      refine w_get (q := 38) aX1_append_35 f_1_19 ((up_n hb.2.2.2.2).trans hb.1) rfl rfl ?_
      refine w_dup_x1 (q := 39) aX1_append_38 ⟨rfl, rfl⟩ rfl ?_
      refine w_iconst (v := 1) (q := 40) aX1_append_39 rfl rfl ?_
      refine w_iadd (q := 41) aX1_append_40 rfl ?_
      refine w_put (q := 44) (fs' := [_, _, _]) aX1_append_41 f_1_19 ((up_n hb.2.2.2.2).trans hb.1) (Nat.le_of_ble_eq_true rfl) rfl rfl (Or.inl rfl) rfl rfl ?_
      refine w_iret aX1_append_44 rfl ?_
      refine Or.inr (Or.inr ⟨hx, hl12, rfl, ⟨g', ?_, ?_, ?_, hb.2.2.2.1, hb.2.2.2.2⟩, ?_⟩)
      · rw [up_s, List.length_append]
        show some (1, [Value.ref a, .int (nI l.length + 1), .int w]) = _
        rw [nI_1]
        rfl
      · rw [up_n (fun z => hb.2.2.2.2 z.symm), up_s]
      · simp at hlen ⊢
        omega
      · exact (fr.rf.up (Or.inr rfl)).up (Or.inl rfl)
    · refine w_bipush (v := -3) (q := 22) aX1_append_20 rfl rfl ?_
      refine w_iret aX1_append_22 rfl ?_
      refine Or.inr (Or.inl ⟨hx, ?_, rfl, rfl⟩)
      rcases Nat.lt_or_ge l.length 12 with z | z
      · exact absurd (nI_lt (b := 12) z (by omega)) c17
      · omega
  · refine w_iconst (v := -1) (q := 10) aX1_append_9 rfl rfl ?_
    refine w_iret aX1_append_10 rfl ?_
    exact Or.inl ⟨Classical.byContradiction fun z => c6 ((pls_m1 (by omega)).mpr z), rfl, rfl⟩
