/-! WHAT AN ACT AND A RINGING DO: the meaning that class and reference share. Ends: 0 well, 1 to 6 a failure, 7 stopped. -/
def m_begin (S : St) (k : Nat) : St := uB (uC (uS S (sS S + 1)) (inc (sC S) 1)) (fu (sB S) k (sB S k + 1))
/-- the acts that neither do acts nor ring -/
def m_al (s : Nat) (S : St) (A : Act9) (v : Int64) : Int32 × St := match s with
  | 0 => (0, uT S (fu (sT S) A.2.1.toNatClampNeg (sT S A.2.1.toNatClampNeg + (v + A.2.2.1.toInt64))))
  | 1 => (0, uT S (fu (sT S) A.2.1.toNatClampNeg (if v < sT S A.2.1.toNatClampNeg then sT S A.2.1.toNatClampNeg else v)))
  | 2 => (0, uT S (fu (sT S) A.2.1.toNatClampNeg (A.2.2.2.1 + A.2.2.1.toInt64)))
  | 3 => if v = 0 then (1, S) else (0, uT S (fu (sT S) A.2.1.toNatClampNeg (sT S A.2.1.toNatClampNeg / v)))
  | 4 => if rL v then (0, uT S (fu (sT S) v.toInt32.toNatClampNeg (sT S v.toInt32.toNatClampNeg + A.2.2.1.toInt64))) else (2, S)
  | 6 => if (sQ S).length = 20 then (4, S) else (0, uQ S (sQ S ++ [(A.2.1, v + A.2.2.1.toInt64)]))
  | 7 => (7, uC S (inc (sC S) 6))
  | 13 => (0, uL S (cutL (sL S) A.2.1 6))
  | 14 => if A.2.1 ∈ sL S A.2.2.1.toNatClampNeg then (0, S) else if (sL S A.2.2.1.toNatClampNeg).length = 12 then (4, S) else (0, uL S (fu (sL S) A.2.2.1.toNatClampNeg (sL S A.2.2.1.toNatClampNeg ++ [A.2.1])))
  | _ => (0, S)
theorem m_al_0 (S : St) (A : Act9) (v : Int64) : m_al 0 S A v = (0, uT S (fu (sT S) A.2.1.toNatClampNeg (sT S A.2.1.toNatClampNeg + (v + A.2.2.1.toInt64)))) := rfl
theorem m_al_1 (S : St) (A : Act9) (v : Int64) : m_al 1 S A v = (0, uT S (fu (sT S) A.2.1.toNatClampNeg (if v < sT S A.2.1.toNatClampNeg then sT S A.2.1.toNatClampNeg else v))) := rfl
theorem m_al_2 (S : St) (A : Act9) (v : Int64) : m_al 2 S A v = (0, uT S (fu (sT S) A.2.1.toNatClampNeg (A.2.2.2.1 + A.2.2.1.toInt64))) := rfl
theorem m_al_3 (S : St) (A : Act9) (v : Int64) : m_al 3 S A v = if v = 0 then (1, S) else (0, uT S (fu (sT S) A.2.1.toNatClampNeg (sT S A.2.1.toNatClampNeg / v))) := rfl
theorem m_al_4 (S : St) (A : Act9) (v : Int64) : m_al 4 S A v = if rL v then (0, uT S (fu (sT S) v.toInt32.toNatClampNeg (sT S v.toInt32.toNatClampNeg + A.2.2.1.toInt64))) else (2, S) := rfl
theorem m_al_6 (S : St) (A : Act9) (v : Int64) : m_al 6 S A v = if (sQ S).length = 20 then (4, S) else (0, uQ S (sQ S ++ [(A.2.1, v + A.2.2.1.toInt64)])) := rfl
theorem m_al_7 (S : St) (A : Act9) (v : Int64) : m_al 7 S A v = (7, uC S (inc (sC S) 6)) := rfl
theorem m_al_13 (S : St) (A : Act9) (v : Int64) : m_al 13 S A v = (0, uL S (cutL (sL S) A.2.1 6)) := rfl
theorem m_al_14 (S : St) (A : Act9) (v : Int64) : m_al 14 S A v = if A.2.1 ∈ sL S A.2.2.1.toNatClampNeg then (0, S) else if (sL S A.2.2.1.toNatClampNeg).length = 12 then (4, S) else (0, uL S (fu (sL S) A.2.2.1.toNatClampNeg (sL S A.2.2.1.toNatClampNeg ++ [A.2.1]))) := rfl
abbrev Pf : Type := St → Option Nat → Int64 → Int32 × St
/-- those that were in line of bell k are told -/
def m_loop (pf : Pf) (k : Nat) (v : Int64) : List Int32 → St → Int32 × St
  | [], S => (0, S)
  | x :: xs, S => if x ∈ sL S k then
      (if (m_bell (pf S (sH S x.toNatClampNeg) v).2 k (pf S (sH S x.toNatClampNeg) v).1).1 = 0 then m_loop pf k v xs (m_bell (pf S (sH S x.toNatClampNeg) v).2 k (pf S (sH S x.toNatClampNeg) v).1).2
       else m_bell (pf S (sH S x.toNatClampNeg) v).2 k (pf S (sH S x.toNatClampNeg) v).1)
    else m_loop pf k v xs S
def m_well (e : Int32) : Int32 := if e = 7 then 0 else e
def m_ring (pf : Pf) (S : St) (k : Nat) (v : Int64) : Int32 × St := if 8 ≤ sD S then (5, S) else
  (m_well (m_loop pf k v (sL S k) (uC (uD S (sD S + 1)) (inc (sC S) 2))).1, uD (m_loop pf k v (sL S k) (uC (uD S (sD S + 1)) (inc (sC S) 2))).2 (sD (m_loop pf k v (sL S k) (uC (uD S (sD S + 1)) (inc (sC S) 2))).2 - 1))
def m_pf (pf : Pf) (s : Nat) (S : St) (k : Nat) (A : Act9) (v : Int64) : Int32 × St := match s with
  | 5 => m_ring pf S A.2.1.toNatClampNeg (v + A.2.2.1.toInt64)
  | 8 => if nI (sB S k) ≤ A.2.2.1 then pf S A.2.2.2.2.1 v else (0, S)
  | 9 => if nI (sB S k) - nI (sB S k) / (if A.2.2.1 < 1 then 1 else A.2.2.1) * (if A.2.2.1 < 1 then 1 else A.2.2.1) = 0 then pf S A.2.2.2.2.1 v else (0, S)
  | 10 => if 0 < sT S A.2.2.1.toNatClampNeg then pf S A.2.2.2.2.1 v else (0, S)
  | 11 => if (pf S A.2.2.2.2.1 v).1 = 0 then pf (pf S A.2.2.2.2.1 v).2 A.2.2.2.2.2 v else pf S A.2.2.2.2.1 v
  | 12 => m_try (pf S A.2.2.2.2.1 v).2 A.2.2.1.toNatClampNeg (pf S A.2.2.2.2.1 v).1
  | s => m_al s S A v
theorem m_pf_5 (pf : Pf) (S : St) (k : Nat) (A : Act9) (v : Int64) : m_pf pf 5 S k A v = m_ring pf S A.2.1.toNatClampNeg (v + A.2.2.1.toInt64) := rfl
theorem m_pf_8 (pf : Pf) (S : St) (k : Nat) (A : Act9) (v : Int64) : m_pf pf 8 S k A v = if nI (sB S k) ≤ A.2.2.1 then pf S A.2.2.2.2.1 v else (0, S) := rfl
theorem m_pf_9 (pf : Pf) (S : St) (k : Nat) (A : Act9) (v : Int64) : m_pf pf 9 S k A v = if nI (sB S k) - nI (sB S k) / (if A.2.2.1 < 1 then 1 else A.2.2.1) * (if A.2.2.1 < 1 then 1 else A.2.2.1) = 0 then pf S A.2.2.2.2.1 v else (0, S) := rfl
theorem m_pf_10 (pf : Pf) (S : St) (k : Nat) (A : Act9) (v : Int64) : m_pf pf 10 S k A v = if 0 < sT S A.2.2.1.toNatClampNeg then pf S A.2.2.2.2.1 v else (0, S) := rfl
theorem m_pf_11 (pf : Pf) (S : St) (k : Nat) (A : Act9) (v : Int64) : m_pf pf 11 S k A v = if (pf S A.2.2.2.2.1 v).1 = 0 then pf (pf S A.2.2.2.2.1 v).2 A.2.2.2.2.2 v else pf S A.2.2.2.2.1 v := rfl
theorem m_pf_12 (pf : Pf) (S : St) (k : Nat) (A : Act9) (v : Int64) : m_pf pf 12 S k A v = m_try (pf S A.2.2.2.2.1 v).2 A.2.2.1.toNatClampNeg (pf S A.2.2.2.2.1 v).1 := rfl
def m_perf : Nat → Pf
  | 0, S, _, _ => (6, S)
  | _ + 1, S, none, _ => (3, S)
  | n + 1, S, some k, v => if 200 ≤ sS S then (6, S) else m_pf (m_perf n) (sA S k).1.toNatClampNeg (m_begin S k) k (sA S k) v
/-- the queue is rung till it is empty, or a failure comes up -/
def m_drain (pf : Pf) : Nat → Int32 → St → Int32 × St
  | 0, e, S => (e, S)
  | n + 1, e, S => if e = 0 then (match sQ S with
      | [] => (0, S)
      | q :: qs => m_drain pf n (m_ring pf (uQ S qs) q.1.toNatClampNeg q.2).1 (m_ring pf (uQ S qs) q.1.toNatClampNeg q.2).2)
    else (e, S)
/-! what always holds of a state -/
def okA (m : Nat) (A : Act9) : Prop := p_can m A.1 A.2.1 A.2.2.1 ∧ (∀ k, A.2.2.2.2.1 = some k → k < m) ∧ ∀ k, A.2.2.2.2.2 = some k → k < m
def Ok (S : St) : Prop := sM S ≤ 40 ∧ (∀ j k, sH S j = some k → k < sM S) ∧ (∀ k, k < sM S → okA (sM S) (sA S k)) ∧ (∀ k, k < 6 → ∀ x ∈ sL S k, rN (sM S) x) ∧ (∀ e ∈ sQ S, rN 6 e.1) ∧ sD S ≤ 8 ∧ sS S ≤ 200
/-- what a step leaves as it was -/
def Sa (S S' : St) : Prop := sM S' = sM S ∧ sA S' = sA S ∧ sH S' = sH S ∧ sW S' = sW S ∧ sD S' = sD S
theorem Sa.rf (S : St) : Sa S S := ⟨rfl, rfl, rfl, rfl, rfl⟩
theorem Sa.tr {S S1 S2 : St} (h : Sa S S1) (g : Sa S1 S2) : Sa S S2 := ⟨g.1.trans h.1, g.2.1.trans h.2.1, g.2.2.1.trans h.2.2.1, g.2.2.2.1.trans h.2.2.2.1, g.2.2.2.2.trans h.2.2.2.2⟩
/-- from S one comes to S' within a call: all stays right, steps only grow -/
def Go (S S' : St) : Prop := (Ok S → Ok S') ∧ Sa S S' ∧ sS S ≤ sS S'
theorem Go.rf (S : St) : Go S S := ⟨id, Sa.rf S, Nat.le_refl _⟩
theorem Go.tr {S S1 S2 : St} (h : Go S S1) (g : Go S1 S2) : Go S S2 := ⟨fun o => g.1 (h.1 o), h.2.1.tr g.2.1, Nat.le_trans h.2.2 g.2.2⟩
theorem Go.T (S : St) (t : Nat → Int64) : Go S (uT S t) := ⟨id, ⟨rfl, rfl, rfl, rfl, rfl⟩, Nat.le_refl _⟩
theorem Go.C (S : St) (t : Nat → Int32) : Go S (uC S t) := ⟨id, ⟨rfl, rfl, rfl, rfl, rfl⟩, Nat.le_refl _⟩
theorem Go.B (S : St) (t : Nat → Nat) : Go S (uB S t) := ⟨id, ⟨rfl, rfl, rfl, rfl, rfl⟩, Nat.le_refl _⟩
theorem Go.Q {S : St} {q : List (Int32 × Int64)} (h : ∀ e ∈ q, rN 6 e.1) : Go S (uQ S q) := ⟨fun o => ⟨o.1, o.2.1, o.2.2.1, o.2.2.2.1, h, o.2.2.2.2.2⟩, ⟨rfl, rfl, rfl, rfl, rfl⟩, Nat.le_refl _⟩
theorem Go.L {S : St} {l : Nat → List Int32} (h : Ok S → ∀ k, k < 6 → ∀ x ∈ l k, rN (sM S) x) : Go S (uL S l) := ⟨fun o => ⟨o.1, o.2.1, o.2.2.1, h o, o.2.2.2.2⟩, ⟨rfl, rfl, rfl, rfl, rfl⟩, Nat.le_refl _⟩
theorem Go.begin {S : St} {k : Nat} (h : ¬ 200 ≤ sS S) : Go S (m_begin S k) := ⟨fun o => ⟨o.1, o.2.1, o.2.2.1, o.2.2.2.1, o.2.2.2.2.1, o.2.2.2.2.2.1, by show sS S + 1 ≤ 200; omega⟩, ⟨rfl, rfl, rfl, rfl, rfl⟩, Nat.le_succ _⟩
theorem Go.bell (S : St) (k : Nat) (e : Int32) : Go S (m_bell S k e).2 := by
  unfold m_bell
  split
  · exact Go.C _ _
  · exact Go.rf S
theorem Go.try (S : St) (k : Nat) (e : Int32) : Go S (m_try S k e).2 := by
  unfold m_try
  split
  · exact (Go.T _ _).tr (Go.C _ _)
  · exact Go.rf S
theorem rN_sort {m : Nat} {A : Act9} (h : okA m A) : ∃ j, j < 15 ∧ A.1 = nI j := rN_of (by omega) (can_in h.1)
theorem Go.al {S : St} {A : Act9} {v : Int64} (s : Nat) (hs : A.1 = nI s) (hs2 : s < 15) (hA : okA (sM S) A) : Go S (m_al s S A v).2 ∨ ¬ Ok S := by
  by_cases ho : Ok S
  · left
    unfold m_al
    split
    · exact Go.T _ _
    · exact Go.T _ _
    · exact Go.T _ _
    · split
      · exact Go.rf S
      · exact Go.T _ _
    · split
      · exact Go.T _ _
      · exact Go.rf S
    · split
      · exact Go.rf S
      · refine Go.Q (fun e he => ?_)
        rcases List.mem_append.mp he with h | h
        · exact ho.2.2.2.2.1 e h
        · rw [List.mem_singleton.mp h]
          have h9 := hA.1
          rw [hs] at h9
          exact can_6.mpr h9
    · exact Go.C _ _
    · refine Go.L (fun o k hk x hx => ?_)
      have hx2 : x ∈ cutL (sL S) A.2.1 6 k := hx
      unfold cutL at hx2
      rw [if_pos hk] at hx2
      exact ho.2.2.2.1 k hk x (List.mem_of_mem_erase hx2)
    · split
      · exact Go.rf S
      · split
        · exact Go.rf S
        · refine Go.L (fun o k hk x hx => ?_)
          unfold fu at hx
          split at hx
          · rename_i e
            subst e
            rcases List.mem_append.mp hx with h | h
            · exact ho.2.2.2.1 _ hk x h
            · rw [List.mem_singleton.mp h]
              have h9 := hA.1
              rw [hs] at h9
              exact (can_14.mpr h9).1
          · exact ho.2.2.2.1 k hk x hx
    · exact Go.rf S
  · exact Or.inr ho
/-- a performing that keeps what always holds -/
def PfOk (pf : Pf) : Prop := ∀ S o v, Ok S → (∀ k, o = some k → k < sM S) → Go S (pf S o v).2
theorem Go.loop {pf : Pf} (hp : PfOk pf) {k : Nat} {v : Int64} : ∀ (xs : List Int32) (S : St), Ok S → Go S (m_loop pf k v xs S).2 := by
  intro xs
  induction xs with
  | nil => intro S _; exact Go.rf S
  | cons x xs ih =>
    intro S ho
    unfold m_loop
    split
    · have g1 := hp S (sH S x.toNatClampNeg) v ho (ho.2.1 _)
      have g2 := g1.tr (Go.bell _ k (pf S (sH S x.toNatClampNeg) v).1)
      split
      · exact g2.tr (ih _ (g2.1 ho))
      · exact g2
    · exact ih S ho
theorem Go.ring {pf : Pf} (hp : PfOk pf) {S : St} {k : Nat} {v : Int64} (ho : Ok S) : Go S (m_ring pf S k v).2 := by
  unfold m_ring
  split
  · exact Go.rf S
  · rename_i hd
    have o1 : Ok (uC (uD S (sD S + 1)) (inc (sC S) 2)) := ⟨ho.1, ho.2.1, ho.2.2.1, ho.2.2.2.1, ho.2.2.2.2.1, by show sD S + 1 ≤ 8; omega, ho.2.2.2.2.2.2⟩
    have g := Go.loop hp (k := k) (v := v) (sL S k) _ o1
    have o2 := g.1 o1
    have hd2 : sD (m_loop pf k v (sL S k) (uC (uD S (sD S + 1)) (inc (sC S) 2))).2 = sD S + 1 := g.2.1.2.2.2.2
    refine ⟨fun _ => ⟨o2.1, o2.2.1, o2.2.2.1, o2.2.2.2.1, o2.2.2.2.2.1, ?_, o2.2.2.2.2.2.2⟩, ⟨g.2.1.1, g.2.1.2.1, g.2.1.2.2.1, g.2.1.2.2.2.1, ?_⟩, g.2.2⟩
    · show sD _ - 1 ≤ 8
      omega
    · show sD _ - 1 = sD S
      omega
theorem PfOk.perf : ∀ n, PfOk (m_perf n) := by
  intro n
  induction n with
  | zero => intro S o v _ _; exact Go.rf S
  | succ n ih =>
    intro S o v ho hk
    cases o with
    | none => exact Go.rf S
    | some k =>
      have hkm := hk k rfl
      unfold m_perf
      split
      · exact Go.rf S
      · rename_i h2
        have g0 : Go S (m_begin S k) := Go.begin h2
        have o0 := g0.1 ho
        have hA : okA (sM S) (sA S k) := ho.2.2.1 k hkm
        obtain ⟨j, hj, ej⟩ := rN_sort hA
        refine g0.tr ?_
        rw [ej, nI_clamp (by omega)]
        unfold m_pf
        split
        · exact Go.ring ih o0
        · split
          · exact ih _ _ _ o0 hA.2.1
          · exact Go.rf _
        · (repeat' split) <;> first | exact ih _ _ _ o0 hA.2.1 | exact Go.rf _
        · split
          · exact ih _ _ _ o0 hA.2.1
          · exact Go.rf _
        · have g1 := ih (m_begin S k) (sA S k).2.2.2.2.1 v o0 hA.2.1
          split
          · refine g1.tr (ih _ _ _ (g1.1 o0) (fun q hq => ?_))
            rw [g1.2.1.1]
            exact hA.2.2 q hq
          · exact g1
        · have g1 := ih (m_begin S k) (sA S k).2.2.2.2.1 v o0 hA.2.1
          exact g1.tr (Go.try _ _ _)
        · exact (Go.al (S := m_begin S k) j ej hj hA).resolve_right (fun z => z o0)
