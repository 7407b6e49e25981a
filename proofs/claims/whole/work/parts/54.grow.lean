/-- the ends that there are -/
def er (e : Int32) : Prop := e = 0 ∨ e = 1 ∨ e = 2 ∨ e = 3 ∨ e = 4 ∨ e = 5 ∨ e = 6 ∨ e = 7
/-- what is begun and what is laid aside grows no faster than the steps -/
def Gw (S S' : St) : Prop := (∀ j, sB S' j + sS S ≤ sB S j + sS S') ∧ (sQ S').length + sS S ≤ (sQ S).length + sS S'
theorem Gw.rf (S : St) : Gw S S := ⟨fun _ => Nat.le_refl _, Nat.le_refl _⟩
theorem Gw.tr {S S1 S2 : St} (h : Gw S S1) (g : Gw S1 S2) : Gw S S2 := ⟨fun j => by have := h.1 j; have := g.1 j; omega, by have := h.2; have := g.2; omega⟩
theorem Gw.same {S S' : St} (h1 : sB S' = sB S) (h2 : sQ S' = sQ S) (h3 : sS S' = sS S) : Gw S S' := ⟨fun j => by rw [h1, h3]; exact Nat.le_refl _, by rw [h2, h3]; exact Nat.le_refl _⟩
theorem Gw.begin (S : St) (k : Nat) : Gw S (m_begin S k) := by
  refine ⟨fun j => ?_, ?_⟩
  · show fu (sB S) k (sB S k + 1) j + sS S ≤ sB S j + (sS S + 1)
    unfold fu
    split
    · rename_i e
      subst e
      omega
    · omega
  · show (sQ S).length + sS S ≤ (sQ S).length + (sS S + 1)
    omega
theorem Gw.bell (S : St) (k : Nat) (e : Int32) : Gw S (m_bell S k e).2 := by
  unfold m_bell
  split
  · exact Gw.same rfl rfl rfl
  · exact Gw.rf S
theorem Gw.try (S : St) (k : Nat) (e : Int32) : Gw S (m_try S k e).2 := by
  unfold m_try
  split
  · exact Gw.same rfl rfl rfl
  · exact Gw.rf S
theorem er.bell {S : St} {k : Nat} {e : Int32} (h : er e) : er (m_bell S k e).1 := by
  unfold m_bell
  split
  · exact Or.inl rfl
  · exact h
theorem er.try {S : St} {k : Nat} {e : Int32} (h : er e) : er (m_try S k e).1 := by
  unfold m_try
  split
  · exact Or.inl rfl
  · exact h
theorem er.well {e : Int32} (h : er e) : er (m_well e) ∧ ¬ m_well e = 7 := by
  rcases h with rfl | rfl | rfl | rfl | rfl | rfl | rfl | rfl <;> exact ⟨by unfold er; decide, by decide⟩
theorem er_0 : er 0 := Or.inl rfl
theorem er_6 : er 6 := by unfold er; decide
theorem er_3 : er 3 := by unfold er; decide
theorem er_lit {e : Int32} (h : e = 0 ∨ e = 1 ∨ e = 2 ∨ e = 4 ∨ e = 7) : er e := by
  unfold er
  rcases h with h | h | h | h | h <;> simp [h]
theorem er.al (s : Nat) (S : St) (A : Act9) (v : Int64) : er (m_al s S A v).1 := by
  apply er_lit
  unfold m_al
  split
  · exact Or.inl rfl
  · exact Or.inl rfl
  · exact Or.inl rfl
  · split
    · exact Or.inr (Or.inl rfl)
    · exact Or.inl rfl
  · split
    · exact Or.inl rfl
    · exact Or.inr (Or.inr (Or.inl rfl))
  · split
    · exact Or.inr (Or.inr (Or.inr (Or.inl rfl)))
    · exact Or.inl rfl
  · exact Or.inr (Or.inr (Or.inr (Or.inr rfl)))
  · exact Or.inl rfl
  · split
    · exact Or.inl rfl
    · split
      · exact Or.inr (Or.inr (Or.inr (Or.inl rfl)))
      · exact Or.inl rfl
  · exact Or.inl rfl
theorem Gw.al (s : Nat) (S : St) (k : Nat) (A : Act9) (v : Int64) : Gw S (m_al s (m_begin S k) A v).2 := by
  have h0 : ∀ S', sB S' = sB (m_begin S k) → sQ S' = sQ (m_begin S k) → sS S' = sS (m_begin S k) → Gw S S' := fun S' h1 h2 h3 => (Gw.begin S k).tr (Gw.same h1 h2 h3)
  unfold m_al
  split
  · exact h0 _ rfl rfl rfl
  · exact h0 _ rfl rfl rfl
  · exact h0 _ rfl rfl rfl
  · split
    · exact h0 _ rfl rfl rfl
    · exact h0 _ rfl rfl rfl
  · split
    · exact h0 _ rfl rfl rfl
    · exact h0 _ rfl rfl rfl
  · split
    · exact h0 _ rfl rfl rfl
    · refine ⟨(Gw.begin S k).1, ?_⟩
      show (sQ S ++ [(A.2.1, v + A.2.2.1.toInt64)]).length + sS S ≤ (sQ S).length + (sS S + 1)
      rw [List.length_append]
      show (sQ S).length + 1 + sS S ≤ (sQ S).length + (sS S + 1)
      omega
  · exact h0 _ rfl rfl rfl
  · exact h0 _ rfl rfl rfl
  · split
    · exact h0 _ rfl rfl rfl
    · split
      · exact h0 _ rfl rfl rfl
      · exact h0 _ rfl rfl rfl
  · exact h0 _ rfl rfl rfl
def PfW (pf : Pf) : Prop := ∀ S o v, er (pf S o v).1 ∧ Gw S (pf S o v).2
theorem PfW.loop {pf : Pf} (hp : PfW pf) {k : Nat} {v : Int64} : ∀ (xs : List Int32) (S : St), er (m_loop pf k v xs S).1 ∧ Gw S (m_loop pf k v xs S).2 := by
  intro xs
  induction xs with
  | nil => intro S; exact ⟨er_0, Gw.rf S⟩
  | cons x xs ih =>
    intro S
    unfold m_loop
    split
    · have g1 := hp S (sH S x.toNatClampNeg) v
      have g2 := g1.2.tr (Gw.bell (pf S (sH S x.toNatClampNeg) v).2 k (pf S (sH S x.toNatClampNeg) v).1)
      split
      · exact ⟨(ih _).1, g2.tr (ih _).2⟩
      · exact ⟨er.bell g1.1, g2⟩
    · exact ih S
theorem PfW.ring {pf : Pf} (hp : PfW pf) (S : St) (k : Nat) (v : Int64) : er (m_ring pf S k v).1 ∧ ¬ (m_ring pf S k v).1 = 7 ∧ Gw S (m_ring pf S k v).2 := by
  unfold m_ring
  split
  · exact ⟨by unfold er; simp, by simp, Gw.rf S⟩
  · have g := hp.loop (k := k) (v := v) (sL S k) (uC (uD S (sD S + 1)) (inc (sC S) 2))
    exact ⟨(er.well g.1).1, (er.well g.1).2, g.2.1, g.2.2⟩
theorem PfW.perf : ∀ n, PfW (m_perf n) := by
  intro n
  induction n with
  | zero => intro S o v; exact ⟨er_6, Gw.rf S⟩
  | succ n ih =>
    intro S o v
    cases o with
    | none => exact ⟨er_3, Gw.rf S⟩
    | some k =>
      unfold m_perf
      split
      · exact ⟨er_6, Gw.rf S⟩
      · have g0 := Gw.begin S k
        generalize (sA S k).1.toNatClampNeg = s
        unfold m_pf
        split
        · exact ⟨(ih.ring _ _ _).1, g0.tr (ih.ring _ _ _).2.2⟩
        · split
          · exact ⟨(ih _ _ _).1, g0.tr (ih _ _ _).2⟩
          · exact ⟨er_0, g0⟩
        · (repeat' split) <;> first | exact ⟨(ih _ _ _).1, g0.tr (ih _ _ _).2⟩ | exact ⟨er_0, g0⟩
        · split
          · exact ⟨(ih _ _ _).1, g0.tr (ih _ _ _).2⟩
          · exact ⟨er_0, g0⟩
        · split
          · exact ⟨(ih _ _ _).1, (g0.tr (ih _ _ _).2).tr (ih _ _ _).2⟩
          · exact ⟨(ih _ _ _).1, g0.tr (ih _ _ _).2⟩
        · exact ⟨er.try (ih _ _ _).1, (g0.tr (ih _ _ _).2).tr (Gw.try _ _ _)⟩
        · exact ⟨er.al _ _ _ _, Gw.al _ S k _ _⟩
/-- what holds while the reference works: the pile with its top first; no act has been begun more than N times -/
def Iv (N : Nat) (S : St) (Q : List Fr) : Prop := Ok S ∧ (∀ f ∈ Q, okF (sM S) f) ∧ nR Q = sD S ∧ Q.length ≤ sS S + 1 ∧ (∀ k, k < 6 → sW S k = 0 ∨ sW S k = 1) ∧ (∀ k, sB S k + 200 ≤ N + sS S) ∧ N + 1 < 2 ^ 31
theorem Iv.go {N : Nat} {S S' : St} {Q : List Fr} (h : Iv N S Q) (g : Go S S') (w : Gw S S') : Iv N S' Q := by
  obtain ⟨h1, h2, h3, h4, h5, h6, h7⟩ := h
  obtain ⟨g1, g2, g3⟩ := g
  obtain ⟨s1, s2, s3, s4, s5⟩ := g2
  refine ⟨g1 h1, ?_, ?_, by omega, ?_, fun k => ?_, h7⟩
  · rw [s1]; exact h2
  · rw [s5]; exact h3
  · rw [s4]; exact h5
  · have := h6 k
    have := w.1 k
    omega
theorem Iv.perf {N n : Nat} {S : St} {Q : List Fr} {o : Option Nat} {v : Int64} (h : Iv N S Q) (ho : ∀ k, o = some k → k < sM S) : Iv N (m_perf n S o v).2 Q := h.go (PfOk.perf n S o v h.1 ho) (PfW.perf n S o v).2
theorem Iv.begin {N : Nat} {S : St} {Q : List Fr} {k : Nat} (h : Iv N S Q) (h2 : ¬ 200 ≤ sS S) : Iv N (m_begin S k) Q ∧ Q.length + 1 ≤ sS (m_begin S k) + 1 := by
  refine ⟨h.go (Go.begin h2) (Gw.begin S k), ?_⟩
  have := h.2.2.2.1
  show Q.length + 1 ≤ sS S + 1 + 1
  omega
/-- a frame that does not ring is laid on -/
theorem Iv.push {N : Nat} {S : St} {Q : List Fr} {f : Fr} (h : Iv N S Q) (hl : Q.length + 1 ≤ sS S + 1) (hf : okF (sM S) f) (h0 : ¬ f.1 = 0) : Iv N S (f :: Q) := by
  obtain ⟨h1, h2, h3, h4, h5⟩ := h
  refine ⟨h1, fun g hg => ?_, ?_, hl, h5⟩
  · rcases List.mem_cons.mp hg with rfl | hg
    · exact hf
    · exact h2 g hg
  · unfold nR
    rw [if_neg h0]
    exact h3
theorem Iv.pop {N : Nat} {S : St} {Q : List Fr} {f : Fr} (h : Iv N S (f :: Q)) (h0 : ¬ f.1 = 0) : Iv N S Q := by
  obtain ⟨h1, h2, h3, h4, h5⟩ := h
  refine ⟨h1, fun g hg => h2 g (List.mem_cons_of_mem _ hg), ?_, ?_, h5⟩
  · unfold nR at h3
    rw [if_neg h0] at h3
    exact h3
  · have : (f :: Q).length = Q.length + 1 := rfl
    omega
/-- a ringing is laid on -/
theorem Iv.ring {N : Nat} {S : St} {Q : List Fr} {f : Fr} {c : Nat → Int32} (h : Iv N S Q) (hl : Q.length ≤ sS S) (hf : okF (sM S) f) (h0 : f.1 = 0) (hd : ¬ 8 ≤ sD S) : Iv N (uC (uD S (sD S + 1)) c) (f :: Q) := by
  obtain ⟨h1, h2, h3, h4, h5⟩ := h
  refine ⟨⟨h1.1, h1.2.1, h1.2.2.1, h1.2.2.2.1, h1.2.2.2.2.1, by show sD S + 1 ≤ 8; omega, h1.2.2.2.2.2.2⟩, fun g hg => ?_, ?_, ?_, h5⟩
  · rcases List.mem_cons.mp hg with rfl | hg
    · exact hf
    · exact h2 g hg
  · unfold nR
    rw [if_pos h0]
    show nR Q + 1 = sD S + 1
    rw [h3]
  · show Q.length + 1 ≤ sS S + 1
    omega
theorem Iv.out {N : Nat} {S : St} {Q : List Fr} {f : Fr} (h : Iv N S (f :: Q)) (h0 : f.1 = 0) : 1 ≤ sD S ∧ Iv N (uD S (sD S - 1)) Q := by
  obtain ⟨h1, h2, h3, h4, h5⟩ := h
  unfold nR at h3
  rw [if_pos h0] at h3
  refine ⟨by omega, ⟨h1.1, h1.2.1, h1.2.2.1, h1.2.2.2.1, h1.2.2.2.2.1, by have := h1.2.2.2.2.2.1; show sD S - 1 ≤ 8; omega, h1.2.2.2.2.2.2⟩, fun g hg => h2 g (List.mem_cons_of_mem _ hg), ?_, ?_, h5⟩
  · show nR Q = sD S - 1
    omega
  · have : (f :: Q).length = Q.length + 1 := rfl
    show Q.length ≤ sS S + 1
    omega
