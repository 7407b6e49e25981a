theorem Zk.z0 {F : Nat} {h0 : mm_H} {Po : Option Value → mm_H → Prop} {S : St} {Q : List Fr} (h : ∀ u, WkP F h0 Po S Q.reverse (0, 0, -1, u)) : Zk F h0 Po S Q 0 := by
  unfold Zk
  rw [if_pos rfl]
  exact h
theorem Zk.o0 {F : Nat} {h0 : mm_H} {Po : Option Value → mm_H → Prop} {S : St} {Q : List Fr} (h : Zk F h0 Po S Q 0) (u : Int64) : WkP F h0 Po S Q.reverse (0, 0, -1, u) := by
  unfold Zk at h
  rw [if_pos rfl] at h
  exact h u
theorem Zk.eqF {F : Nat} {h0 : mm_H} {Po : Option Value → mm_H → Prop} {S S' : St} {Q Q' : List Fr} {e : Int32} (e0 : ¬ e = 0) (e7 : ¬ e = 7) (er : r_fails Q' S' e = r_fails Q S e) (h : Zk F h0 Po S Q e) : Zk F h0 Po S' Q' e := by
  unfold Zk at h ⊢
  rw [if_neg e0, if_neg e7] at h ⊢
  rw [er]
  exact h
theorem Zk.met {F : Nat} {h0 : mm_H} {Po : Option Value → mm_H → Prop} {S S1 : St} {Q Q1 : List Fr} {e : Int32} (e0 : ¬ e = 0) (e7 : ¬ e = 7) (er : r_fails Q S e = (0, S1, Q1)) (h : Zk F h0 Po S1 Q1 0) : Zk F h0 Po S Q e := by
  unfold Zk at h ⊢
  rw [if_pos rfl] at h
  rw [if_neg e0, if_neg e7, er, if_pos rfl]
  exact h
theorem Zk.stop {F : Nat} {h0 : mm_H} {Po : Option Value → mm_H → Prop} {S S1 : St} {Q Q1 : List Fr} (er : r_stop Q S = (S1, Q1)) (h : Zk F h0 Po S1 Q1 0) : Zk F h0 Po S Q 7 := by
  unfold Zk at h ⊢
  rw [if_pos rfl] at h
  rw [if_neg (by decide), if_pos rfl, er]
  exact h
theorem Zk.stopE {F : Nat} {h0 : mm_H} {Po : Option Value → mm_H → Prop} {S S' : St} {Q Q' : List Fr} (er : r_stop Q' S' = r_stop Q S) (h : Zk F h0 Po S Q 7) : Zk F h0 Po S' Q' 7 := by
  unfold Zk at h ⊢
  rw [if_neg (by decide), if_pos rfl] at h ⊢
  rw [er]
  exact h
theorem Iv.nx {N : Nat} {S : St} {Q : List Fr} {s i : Int32} {v : Int64} {l : List Int32} {n n' : Nat} (h : Iv N S ((s, i, v, l, n) :: Q)) : Iv N S ((s, i, v, l, n') :: Q) := by
  obtain ⟨h1, h2, h3, h4, h5⟩ := h
  refine ⟨h1, fun g hg => ?_, h3, h4, h5⟩
  rcases List.mem_cons.mp hg with rfl | hg
  · exact h2 (s, i, v, l, n) List.mem_cons_self
  · exact h2 g (List.mem_cons_of_mem _ hg)
theorem Iv.len {N : Nat} {S : St} {Q : List Fr} (h : Iv N S Q) : Q.length ≤ 201 := by
  have := h.2.2.2.1
  have := h.1.2.2.2.2.2.2
  omega
def PfK (F N : Nat) (h0 : mm_H) (Po : Option Value → mm_H → Prop) (n : Nat) : Prop := ∀ (S : St) (Q : List Fr) (o : Option Nat) (v u : Int64), Iv N S Q → (∀ k, o = some k → k < sM S) → 201 ≤ n + sS S → Zk F h0 Po (m_perf n S o v).2 Q (m_perf n S o v).1 → WkP F h0 Po S Q.reverse (Xb o v u)
theorem m_bell_0 (S : St) (k : Nat) : m_bell S k 0 = (0, S) := if_neg (fun z => absurd z.2 (by decide))
theorem m_bell_7 (S : St) (k : Nat) : m_bell S k 7 = (7, S) := if_neg (fun z => absurd z.2 (by decide))
theorem k_loop {F N n : Nat} {h0 : mm_H} {Po : Option Value → mm_H → Prop} (ih : PfK F N h0 Po n) {k : Nat} {v : Int64} (hk : k < 6) : ∀ (xs pre : List Int32) (S : St) (Q : List Fr) (u : Int64), Iv N S ((0, nI k, v, pre ++ xs, pre.length) :: Q) → 201 ≤ n + sS S → Zk F h0 Po (uD (m_loop (m_perf n) k v xs S).2 (sD (m_loop (m_perf n) k v xs S).2 - 1)) Q (m_well (m_loop (m_perf n) k v xs S).1) → WkP F h0 Po S ((0, nI k, v, pre ++ xs, pre.length) :: Q).reverse (0, 0, -1, u) := by
  intro xs
  induction xs with
  | nil =>
    intro pre S Q u hI hn hZ
    have hl := hI.len
    have hl2 : Q.length + 1 ≤ 201 := hl
    obtain ⟨hd, -⟩ := hI.out rfl
    rw [List.reverse_cons, List.append_nil]
    have hW := Zk.o0 (show Zk F h0 Po (uD S (sD S - 1)) Q 0 from hZ) u
    refine k_go (by simp) (by simp; omega) (fun h hR => ?_)
    exact mW.imp (d_go0e (by rw [List.length_reverse]; omega) hd hR) (fun r h' hp => ⟨hp.1, fun hf => hW h' hp.2.1 hf, hp.2.2⟩)
  | cons x xs ihx =>
    intro pre S Q u hI hn hZ
    have hl2 : Q.length + 1 ≤ 201 := hI.len
    have el : pre ++ x :: xs = (pre ++ [x]) ++ xs := by simp
    have eln : (pre ++ [x]).length = pre.length + 1 := by simp
    have hxm : rN (sM S) x := by
      obtain ⟨k', -, -, hx⟩ := (hI.2.1 _ List.mem_cons_self).1 rfl
      exact hx x (by simp)
    have hI2 : Iv N S ((0, nI k, v, (pre ++ [x]) ++ xs, (pre ++ [x]).length) :: Q) := by
      rw [el] at hI
      exact hI.nx
    have hW : WkP F h0 Po S (Q.reverse ++ [(0, nI k, v, pre ++ x :: xs, pre.length + 1)]) (if x ∈ sL S k then Xb (sH S x.toNatClampNeg) v u else (0, 0, -1, u)) := by
      rw [el, ← eln, ← List.reverse_cons]
      unfold m_loop at hZ
      by_cases hx : x ∈ sL S k
      · rw [if_pos hx] at hZ ⊢
        have ho := hI.1.2.1 x.toNatClampNeg
        refine ih S _ (sH S x.toNatClampNeg) v u hI2 ho hn ?_
        have hI3 := hI2.perf (n := n) (v := v) ho
        have hg := (PfOk.perf n S (sH S x.toNatClampNeg) v hI.1 ho).2.2
        have her := (PfW.perf n S (sH S x.toNatClampNeg) v).1
        have hsw := (PfOk.perf n S (sH S x.toNatClampNeg) v hI.1 ho).2.1.2.2.2.1
        generalize m_perf n S (sH S x.toNatClampNeg) v = r at hZ hI3 hg her hsw ⊢
        obtain ⟨e, S1⟩ := r
        simp only at hZ hI3 hg her hsw ⊢
        have hw := hI3.2.2.2.2.1 k hk
        by_cases e0 : e = 0
        · subst e0
          rw [m_bell_0, if_pos rfl] at hZ
          exact Zk.z0 (fun u => ihx (pre ++ [x]) S1 Q u hI3 (by omega) hZ)
        by_cases e7 : e = 7
        · subst e7
          rw [m_bell_7, if_neg (show ¬ (7 : Int32) = 0 by decide)] at hZ
          exact Zk.stop (S1 := uD S1 (sD S1 - 1)) (Q1 := Q) (if_pos rfl) hZ
        by_cases hmt : ¬ sW S1 k = 0 ∧ m_met e
        · have eb : m_bell S1 k e = (0, uC S1 (inc (inc (sC S1) 3) 9)) := if_pos hmt
          rw [eb, if_pos rfl] at hZ
          have h1 : sW S1 (nI k).toNatClampNeg = 1 := by
            rw [nI_clamp (by omega)]
            exact hw.resolve_left hmt.1
          refine Zk.met e0 e7 (if_pos ⟨hmt.2, rfl, h1⟩) (Zk.z0 (fun u => ihx (pre ++ [x]) _ Q u (hI3.go (Go.C _ _) (Gw.same rfl rfl rfl)) (by show 201 ≤ n + sS S1; omega) hZ))
        · have eb : m_bell S1 k e = (e, S1) := if_neg hmt
          rw [eb, if_neg (show ¬ (e, S1).1 = 0 from e0)] at hZ
          have ew : m_well e = e := if_neg e7
          rw [show m_well (e, S1).1 = e from ew] at hZ
          refine Zk.eqF e0 e7 ?_ hZ
          have h1 : ¬ (m_met e ∧ (0 : Int32) = 0 ∧ sW S1 (nI k).toNatClampNeg = 1) := fun z => hmt ⟨by
            have := z.2.2
            rw [nI_clamp (by omega)] at this
            rw [this]
            decide, z.1⟩
          have h2 : ¬ (m_met e ∧ (0 : Int32) = 1) := fun z => absurd z.2 (by decide)
          exact (if_neg h1).trans (if_neg h2)
      · rw [if_neg hx] at hZ ⊢
        exact ihx (pre ++ [x]) S Q u hI2 hn hZ
    rw [List.reverse_cons]
    refine k_go (by simp) (by simp; omega) (fun h hR => ?_)
    exact mW.imp (d_go0n (by rw [List.length_reverse]; omega) hk (by simp) hxm hI.1 hR) (fun r h' hp => ⟨hp.1, fun hf => hW h' hp.2.1 hf, hp.2.2⟩)
