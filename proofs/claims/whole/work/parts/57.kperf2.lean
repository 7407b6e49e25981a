theorem m_try_0 (S : St) (t : Nat) : m_try S t 0 = (0, S) := if_neg (fun z => absurd z (by decide))
theorem m_try_7 (S : St) (t : Nat) : m_try S t 7 = (7, S) := if_neg (fun z => absurd z (by decide))
theorem er_5 : er 5 := by unfold er; decide
theorem k_perf {F N : Nat} {h0 : mm_H} {Po : Option Value → mm_H → Prop} : ∀ n, PfK F N h0 Po n := by
  intro n
  induction n with
  | zero =>
    intro S Q o v u hI ho hn hZ
    have := hI.1.2.2.2.2.2.2
    omega
  | succ n ih =>
    intro S Q o v u hI ho hn hZ
    cases o with
    | none => exact k_end er_3 hI hZ u
    | some k =>
      have hk := ho k rfl
      have hA := hI.1.2.2.1 k hk
      have hM40 := hI.1.1
      obtain ⟨j, hj, ej⟩ := rN_sort hA
      have hcan := hA.1
      rw [ej] at hcan
      show WkP F h0 Po S Q.reverse (0, 0, nI k, v)
      by_cases h2 : 200 ≤ sS S
      · have e : m_perf (n + 1) S (some k) v = (6, S) := if_pos h2
        rw [e] at hZ
        exact k_does hI hk (Or.inr ⟨h2, hZ⟩)
      have e : m_perf (n + 1) S (some k) v = m_pf (m_perf n) j (m_begin S k) k (sA S k) v := by
        show (if 200 ≤ sS S then _ else m_pf (m_perf n) (sA S k).1.toNatClampNeg (m_begin S k) k (sA S k) v) = _
        rw [if_neg h2, ej, nI_clamp (by omega)]
      rw [e] at hZ
      refine k_does hI hk (Or.inl ?_)
      unfold r_does
      rw [if_neg h2, ej, nI_clamp (by omega)]
      obtain ⟨hI1, hl1⟩ := hI.begin (k := k) h2
      have hn1 : 201 ≤ n + sS (m_begin S k) := by show 201 ≤ n + (sS S + 1); omega
      have hone : ∀ q, (sA S k).2.2.2.2.1 = some q → q < sM (m_begin S k) := hA.2.1
      have htwo : ∀ q, (sA S k).2.2.2.2.2 = some q → q < sM (m_begin S k) := hA.2.2
      have hal : (¬ j = 5 ∧ ¬ j = 8 ∧ ¬ j = 9 ∧ ¬ j = 10 ∧ ¬ j = 11 ∧ ¬ j = 12) → Zk F h0 Po (m_al j (m_begin S k) (sA S k) v).2 Q (m_al j (m_begin S k) (sA S k) v).1 → WkP F h0 Po (m_al j (m_begin S k) (sA S k) v).2 Q.reverse (Xe (m_al j (m_begin S k) (sA S k) v).1 v) := fun _ hZ => by
        have g := (Go.al (S := m_begin S k) (v := v) j ej hj hA).resolve_right (fun z => z hI1.1)
        exact k_end (er.al _ _ _ _) (hI.go ((Go.begin h2).tr g) (Gw.al j S k (sA S k) v)) hZ v
      generalize hS1 : m_begin S k = S1 at *
      have hcs : j = 0 ∨ j = 1 ∨ j = 2 ∨ j = 3 ∨ j = 4 ∨ j = 5 ∨ j = 6 ∨ j = 7 ∨ j = 8 ∨ j = 9 ∨ j = 10 ∨ j = 11 ∨ j = 12 ∨ j = 13 ∨ j = 14 := by omega
      rcases hcs with rfl | rfl | rfl | rfl | rfl | rfl | rfl | rfl | rfl | rfl | rfl | rfl | rfl | rfl | rfl
      · exact hal (by decide) hZ
      · exact hal (by decide) hZ
      · exact hal (by decide) hZ
      · exact hal (by decide) hZ
      · exact hal (by decide) hZ
      · rw [r_do_5]
        rw [m_pf_5] at hZ
        obtain ⟨i, hi, ei⟩ := rN_of (by omega) (can_5.mpr hcan)
        rw [ei, nI_clamp (by omega)] at hZ ⊢
        unfold r_rings
        unfold m_ring at hZ
        by_cases h8 : 8 ≤ sD S1
        · rw [if_pos h8] at hZ ⊢
          exact k_end er_5 hI1 hZ v
        · rw [if_neg h8] at hZ ⊢
          have hI2 := hI1.ring (f := (0, nI i, v + (sA S k).2.2.1.toInt64, sL S1 i, 0)) (c := inc (sC S1) 2) (by omega) ⟨fun _ => ⟨i, hi, rfl, hI1.1.2.2.2.1 i hi⟩, fun z => absurd (show (0 : Int32) = 1 from z) (by decide), fun z => absurd (show (0 : Int32) = 2 from z) (by decide), Or.inl rfl⟩ rfl h8
          have := k_loop ih hi (sL S1 i) [] (uC (uD S1 (sD S1 + 1)) (inc (sC S1) 2)) Q v hI2 hn1 hZ
          rw [List.reverse_cons] at this
          exact this
      · exact hal (by decide) hZ
      · exact hal (by decide) hZ
      · rw [r_do_8]
        rw [m_pf_8] at hZ
        by_cases hc : nI (sB S1 k) ≤ (sA S k).2.2.1
        · rw [if_pos hc] at hZ
          show WkP F h0 Po S1 Q.reverse (if nI (sB S1 k) ≤ (sA S k).2.2.1 then _ else _)
          rw [if_pos hc]
          exact ih S1 Q _ v v hI1 hone hn1 hZ
        · rw [if_neg hc] at hZ
          show WkP F h0 Po S1 Q.reverse (if nI (sB S1 k) ≤ (sA S k).2.2.1 then _ else _)
          rw [if_neg hc]
          exact Zk.o0 hZ v
      · rw [r_do_9]
        rw [m_pf_9] at hZ
        by_cases hc : nI (sB S1 k) - nI (sB S1 k) / (if (sA S k).2.2.1 < 1 then 1 else (sA S k).2.2.1) * (if (sA S k).2.2.1 < 1 then 1 else (sA S k).2.2.1) = 0
        · rw [if_pos hc] at hZ
          show WkP F h0 Po S1 Q.reverse (if nI (sB S1 k) - nI (sB S1 k) / (if (sA S k).2.2.1 < 1 then 1 else (sA S k).2.2.1) * (if (sA S k).2.2.1 < 1 then 1 else (sA S k).2.2.1) = 0 then _ else _)
          rw [if_pos hc]
          exact ih S1 Q _ v v hI1 hone hn1 hZ
        · rw [if_neg hc] at hZ
          show WkP F h0 Po S1 Q.reverse (if nI (sB S1 k) - nI (sB S1 k) / (if (sA S k).2.2.1 < 1 then 1 else (sA S k).2.2.1) * (if (sA S k).2.2.1 < 1 then 1 else (sA S k).2.2.1) = 0 then _ else _)
          rw [if_neg hc]
          exact Zk.o0 hZ v
      · rw [r_do_10]
        rw [m_pf_10] at hZ
        by_cases hc : 0 < sT S1 (sA S k).2.2.1.toNatClampNeg
        · rw [if_pos hc] at hZ
          show WkP F h0 Po S1 Q.reverse (if 0 < sT S1 (sA S k).2.2.1.toNatClampNeg then _ else _)
          rw [if_pos hc]
          exact ih S1 Q _ v v hI1 hone hn1 hZ
        · rw [if_neg hc] at hZ
          show WkP F h0 Po S1 Q.reverse (if 0 < sT S1 (sA S k).2.2.1.toNatClampNeg then _ else _)
          rw [if_neg hc]
          exact Zk.o0 hZ v
      · rw [r_do_11]
        rw [m_pf_11] at hZ
        show WkP F h0 Po S1 (Q.reverse ++ [(2, oI (sA S k).2.2.2.2.2, v, [], 0)]) (Xb (sA S k).2.2.2.2.1 v v)
        rw [← List.reverse_cons]
        have hI2 : Iv N S1 ((2, oI (sA S k).2.2.2.2.2, v, [], 0) :: Q) := hI1.push hl1 ⟨fun z => absurd (show (2 : Int32) = 0 from z) (by decide), fun z => absurd (show (2 : Int32) = 1 from z) (by decide), fun _ => ⟨(sA S k).2.2.2.2.2, rfl, htwo⟩, Or.inr (Or.inr rfl)⟩ (show ¬ (2 : Int32) = 0 by decide)
        have hl3 : Q.length + 1 ≤ 201 := hI2.len
        refine ih S1 _ _ v v hI2 hone hn1 ?_
        have g := PfOk.perf n S1 (sA S k).2.2.2.2.1 v hI1.1 hone
        have her := (PfW.perf n S1 (sA S k).2.2.2.2.1 v).1
        have hI3 := hI1.perf (n := n) (v := v) hone
        generalize m_perf n S1 (sA S k).2.2.2.2.1 v = r at hZ hI3 g her ⊢
        obtain ⟨e, S2⟩ := r
        have g1 : sM S2 = sM S1 := g.2.1.1
        have g2 : sS S1 ≤ sS S2 := g.2.2
        simp only at hZ hI3 her ⊢
        by_cases e0 : e = 0
        · subst e0
          rw [if_pos rfl] at hZ
          refine Zk.z0 (fun u => ?_)
          have hW := ih S2 Q (sA S k).2.2.2.2.2 v u hI3 (fun q hq => by rw [g1]; exact htwo q hq) (by omega) hZ
          rw [List.reverse_cons]
          refine k_go (by simp) (by simp; omega) (fun h hR => ?_)
          exact mW.imp (d_go12 (X := Xb (sA S k).2.2.2.2.2 v u) (by rw [List.length_reverse]; omega) (show ¬ (2 : Int32) = 0 by decide) (fun _ => ⟨(sA S k).2.2.2.2.2, rfl, fun q hq => by have := htwo q hq; have := hI1.1.1; omega, rfl⟩) (fun z => absurd rfl z) hR) (fun r h' hp => ⟨hp.1, fun hf => hW h' hp.2.1 hf, hp.2.2⟩)
        rw [if_neg e0] at hZ
        by_cases e7 : e = 7
        · subst e7
          exact Zk.stopE (if_neg (show ¬ (2 : Int32) = 0 by decide)) hZ
        · refine Zk.eqF e0 e7 ?_ hZ
          exact (if_neg (fun z => absurd (show (2 : Int32) = 0 from z.2.1) (by decide))).trans ((if_neg (fun z => absurd (show (2 : Int32) = 1 from z.2) (by decide))).trans (congrArg (fun z => r_fails Q z e) (if_neg (show ¬ (2 : Int32) = 0 by decide))))
      · rw [r_do_12]
        rw [m_pf_12] at hZ
        obtain ⟨t, ht, et⟩ := rN_of (by omega) (can_12.mpr hcan).2
        rw [et, nI_clamp (by omega)] at hZ
        show WkP F h0 Po S1 (Q.reverse ++ [(1, (sA S k).2.2.1, v, [], 0)]) (Xb (sA S k).2.2.2.2.1 v v)
        rw [← List.reverse_cons, et]
        have hI2 : Iv N S1 ((1, nI t, v, [], 0) :: Q) := hI1.push hl1 ⟨fun z => absurd (show (1 : Int32) = 0 from z) (by decide), fun _ => ⟨t, ht, rfl⟩, fun z => absurd (show (1 : Int32) = 2 from z) (by decide), Or.inr (Or.inl rfl)⟩ (show ¬ (1 : Int32) = 0 by decide)
        have hl3 : Q.length + 1 ≤ 201 := hI2.len
        refine ih S1 _ _ v v hI2 hone hn1 ?_
        have her := (PfW.perf n S1 (sA S k).2.2.2.2.1 v).1
        generalize m_perf n S1 (sA S k).2.2.2.2.1 v = r at hZ her ⊢
        obtain ⟨e, S2⟩ := r
        simp only at hZ her ⊢
        by_cases e0 : e = 0
        · subst e0
          rw [m_try_0] at hZ
          refine Zk.z0 (fun u => ?_)
          have hW := Zk.o0 hZ u
          rw [List.reverse_cons]
          refine k_go (by simp) (by simp; omega) (fun h hR => ?_)
          exact mW.imp (d_go12 (X := (0, 0, -1, u)) (by rw [List.length_reverse]; omega) (show ¬ (1 : Int32) = 0 by decide) (fun z => absurd (show (1 : Int32) = 2 from z) (by decide)) (fun _ => rfl) hR) (fun r h' hp => ⟨hp.1, fun hf => hW h' hp.2.1 hf, hp.2.2⟩)
        by_cases e7 : e = 7
        · subst e7
          rw [m_try_7] at hZ
          exact Zk.stopE (if_neg (show ¬ (1 : Int32) = 0 by decide)) hZ
        by_cases hmt : m_met e
        · have em : m_try S2 t e = (0, uC (uT S2 (fu (sT S2) t (sT S2 t + 1))) (inc (inc (sC S2) 5) 9)) := if_pos hmt
          rw [em] at hZ
          refine Zk.met e0 e7 ?_ hZ
          have := nI_clamp (n := t) (by omega)
          refine (if_neg (fun z => absurd (show (1 : Int32) = 0 from z.2.1) (by decide))).trans ((if_pos ⟨hmt, rfl⟩).trans ?_)
          show (0, uC (uT S2 (fu (sT S2) (nI t).toNatClampNeg (sT S2 (nI t).toNatClampNeg + 1))) (inc (inc (sC S2) 5) 9), Q) = _
          rw [this]
        · have em : m_try S2 t e = (e, S2) := if_neg hmt
          rw [em] at hZ
          refine Zk.eqF e0 e7 ?_ hZ
          exact (if_neg (fun z => absurd (show (1 : Int32) = 0 from z.2.1) (by decide))).trans ((if_neg (fun z => absurd z.1 hmt)).trans (congrArg (fun z => r_fails Q z e) (if_neg (show ¬ (1 : Int32) = 0 by decide))))
      · exact hal (by decide) hZ
      · exact hal (by decide) hZ
