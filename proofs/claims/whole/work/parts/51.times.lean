theorem nI_div {a b : Nat} (ha : a < 2 ^ 31) (hb : b < 2 ^ 31) : nI a / nI b = nI (a / b) := by
  have hd : a / b ≤ a := Nat.div_le_self a b
  apply Int32.toInt_inj.mp
  rw [Int32.toInt_div, nI_toInt ha, nI_toInt hb, nI_toInt (by omega)]
  rw [Int.tdiv_eq_ediv_of_nonneg (Int.natCast_nonneg a), ← Int.natCast_ediv]
  generalize a / b = q at hd ⊢
  exact Int.bmod_eq_of_le (by omega) (by omega)
theorem nI_rem {a b : Nat} (ha : a < 2 ^ 31) (hb : b < 2 ^ 31) : nI a - nI a / nI b * nI b = nI (a % b) := by
  have e : a = a % b + a / b * b := by rw [Nat.mul_comm]; exact (Nat.mod_add_div a b).symm
  rw [nI_div ha hb, pk_mul]
  have e2 : nI a = nI (a % b) + nI (a / b * b) := by rw [nI_add]; exact congrArg nI e
  rw [e2]
  exact Int32.add_sub_cancel _ _
/-- a FIRST -/
theorem rTm_first {A : Act9} {n : Nat} {t : Int32} (hA : A.1 = 8) (hn : n + 1 < 2 ^ 31) (h : rTm A n t) : (t < A.2.2.1 ↔ nI (n + 1) ≤ A.2.2.1) ∧ (t < A.2.2.1 → rTm A (n + 1) (t + 1)) ∧ (¬ t < A.2.2.1 → rTm A (n + 1) t) := by
  obtain ⟨c, rfl, h1, h2, h3⟩ := h.1 hA
  have e1 : nI c < A.2.2.1 ↔ (c : Int) < A.2.2.1.toInt := by rw [Int32.lt_iff_toInt_lt, nI_toInt (by omega)]
  have e2 : nI (n + 1) ≤ A.2.2.1 ↔ ((n + 1 : Nat) : Int) ≤ A.2.2.1.toInt := by rw [Int32.le_iff_toInt_le, nI_toInt (by omega)]
  rw [e1, e2]
  refine ⟨⟨fun z => ?_, fun z => ?_⟩, fun z => ⟨fun _ => ⟨c + 1, nI_1 c, by omega, fun _ => ?_, fun _ => ?_⟩, fun z9 => absurd (hA.symm.trans z9) (by decide)⟩, fun z => ⟨fun _ => ⟨c, rfl, by omega, fun _ => ?_, fun _ => ?_⟩, fun z9 => absurd (hA.symm.trans z9) (by decide)⟩⟩
  · by_cases hlt : (n : Int) < A.2.2.1.toInt
    · omega
    · have := h3 (by omega)
      omega
  · omega
  · have := h2 (by omega)
    omega
  · by_cases hlt : (n : Int) < A.2.2.1.toInt
    · have := h2 hlt
      omega
    · have := h3 (by omega)
      omega
  · by_cases hlt : (n : Int) < A.2.2.1.toInt
    · have := h2 hlt
      omega
    · omega
  · omega
/-- an EACH -/
theorem rTm_each {A : Act9} {n : Nat} {t : Int32} (hA : A.1 = 9) (hn : n + 1 < 2 ^ 31) (h : rTm A n t) : (¬ t + 1 < A.2.2.1 ↔ nI (n + 1) - nI (n + 1) / (if A.2.2.1 < 1 then 1 else A.2.2.1) * (if A.2.2.1 < 1 then 1 else A.2.2.1) = 0) ∧ (t + 1 < A.2.2.1 → rTm A (n + 1) (t + 1)) ∧ (¬ t + 1 < A.2.2.1 → rTm A (n + 1) 0) := by
  obtain ⟨c, rfl, hc⟩ := h.2 hA
  rw [nI_1]
  by_cases hb : A.2.2.1 < 1
  · rw [if_pos hb] at hc ⊢
    have hc0 : c = 0 := by rw [hc]; exact Nat.mod_one n
    subst hc0
    have e1 : ¬ nI (0 + 1) < A.2.2.1 := fun z => Int32.lt_asymm z hb
    refine ⟨⟨fun _ => ?_, fun _ => e1⟩, fun z => absurd z e1, fun _ => ⟨fun z8 => absurd (hA.symm.trans z8) (by decide), fun _ => ⟨0, rfl, ?_⟩⟩⟩
    · rw [show (1 : Int32) = nI 1 from rfl, nI_rem hn (by omega), Nat.mod_one]
      rfl
    · rw [if_pos hb, Nat.mod_one]
  · rw [if_neg hb] at hc ⊢
    have hb2 := Int32.not_lt.mp hb
    rw [Int32.le_iff_toInt_le] at hb2
    have hb3 : (1 : Int) ≤ A.2.2.1.toInt := hb2
    obtain ⟨q, hq, eq⟩ : ∃ q : Nat, q < 2 ^ 31 ∧ A.2.2.1 = nI q := by
      have hlt := Int32.toInt_lt A.2.2.1
      refine ⟨A.2.2.1.toInt.toNat, by omega, Int32.toInt_inj.mp ?_⟩
      rw [nI_toInt (by omega)]
      omega
    have hq1 : 1 ≤ q := by rw [eq, nI_toInt hq] at hb3; omega
    rw [eq, nI_clamp hq] at hc
    rw [eq]
    have hcq : c < q := by rw [hc]; exact Nat.mod_lt _ (by omega)
    have hm : (n + 1) % q = if c + 1 = q then 0 else c + 1 := by
      rw [hc, Nat.add_mod]
      by_cases h1 : q = 1
      · subst h1
        simp [Nat.mod_one]
      · rw [Nat.mod_eq_of_lt (show 1 < q by omega)]
        split
        · rename_i e
          rw [e, Nat.mod_self]
        · rename_i e
          exact Nat.mod_eq_of_lt (by rw [← hc] at e ⊢; omega)
    have e1 : ¬ nI (c + 1) < nI q ↔ c + 1 = q := by
      refine ⟨fun z => ?_, fun z => ?_⟩
      · by_cases h : c + 1 < q
        · exact absurd (nI_lt h hq) z
        · omega
      · rw [z]
        exact Int32.lt_irrefl
    refine ⟨e1.trans ?_, fun z => ⟨fun z8 => absurd (hA.symm.trans z8) (by decide), fun _ => ⟨c + 1, rfl, ?_⟩⟩, fun z => ⟨fun z8 => absurd (hA.symm.trans z8) (by decide), fun _ => ⟨0, rfl, ?_⟩⟩⟩
    · rw [nI_rem hn hq, hm, show (0 : Int32) = nI 0 from rfl, nI_iff (by split <;> omega) (by omega)]
      split
      · rename_i e
        exact ⟨fun _ => rfl, fun _ => e⟩
      · rename_i e
        exact ⟨fun z => absurd z e, fun z => by omega⟩
    · rw [eq, if_neg (by rw [← eq]; exact hb), nI_clamp hq, hm, if_neg (fun y => absurd z (e1.mpr y))]
    · rw [eq, if_neg (by rw [← eq]; exact hb), nI_clamp hq, hm, if_pos (e1.mp z)]
theorem rTi.begin {S : St} {ti : Nat → Int32} {k : Nat} (h8 : ¬ (sA S k).1 = 8) (h9 : ¬ (sA S k).1 = 9) (h : rTi S ti) : rTi (m_begin S k) ti := by
  intro j hj
  by_cases e : j = k
  · subst e
    exact ⟨fun z => absurd z h8, fun z => absurd z h9⟩
  · show rTm (sA S j) (fu (sB S) k (sB S k + 1) j) (ti j)
    rw [fu_n e]
    exact h j hj
theorem rTi.beginT {S : St} {ti : Nat → Int32} {k : Nat} {t : Int32} (ht : rTm (sA S k) (sB S k + 1) t) (h : rTi S ti) : rTi (m_begin S k) (fu ti k t) := by
  intro j hj
  show rTm (sA S j) (fu (sB S) k (sB S k + 1) j) (fu ti k t j)
  by_cases e : j = k
  · subst e
    rw [fu_s, fu_s]
    exact ht
  · rw [fu_n e, fu_n e]
    exact h j hj
theorem rTi.beginS {S : St} {ti : Nat → Int32} {k : Nat} (ht : rTm (sA S k) (sB S k + 1) (ti k)) (h : rTi S ti) : rTi (m_begin S k) ti := by
  have := h.beginT ht
  rw [fu_id] at this
  exact this
/-- what the reference does at an act's beginning -/
def r_do (s : Nat) (S : St) (k : Nat) (A : Act9) (v : Int64) (P : List Fr) : St × List Fr × Xs := match s with
  | 5 => r_rings S A.2.1.toNatClampNeg (v + A.2.2.1.toInt64) v P
  | 8 => (S, P, if nI (sB S k) ≤ A.2.2.1 then Xb A.2.2.2.2.1 v v else (0, 0, -1, v))
  | 9 => (S, P, if nI (sB S k) - nI (sB S k) / (if A.2.2.1 < 1 then 1 else A.2.2.1) * (if A.2.2.1 < 1 then 1 else A.2.2.1) = 0 then Xb A.2.2.2.2.1 v v else (0, 0, -1, v))
  | 10 => (S, P, if 0 < sT S A.2.2.1.toNatClampNeg then Xb A.2.2.2.2.1 v v else (0, 0, -1, v))
  | 11 => (S, P ++ [(2, oI A.2.2.2.2.2, v, [], 0)], Xb A.2.2.2.2.1 v v)
  | 12 => (S, P ++ [(1, A.2.2.1, v, [], 0)], Xb A.2.2.2.2.1 v v)
  | s => ((m_al s S A v).2, P, Xe (m_al s S A v).1 v)
theorem r_do_5 (S : St) (k : Nat) (A : Act9) (v : Int64) (P : List Fr) : r_do 5 S k A v P = r_rings S A.2.1.toNatClampNeg (v + A.2.2.1.toInt64) v P := rfl
theorem r_do_8 (S : St) (k : Nat) (A : Act9) (v : Int64) (P : List Fr) : r_do 8 S k A v P = (S, P, if nI (sB S k) ≤ A.2.2.1 then Xb A.2.2.2.2.1 v v else (0, 0, -1, v)) := rfl
theorem r_do_9 (S : St) (k : Nat) (A : Act9) (v : Int64) (P : List Fr) : r_do 9 S k A v P = (S, P, if nI (sB S k) - nI (sB S k) / (if A.2.2.1 < 1 then 1 else A.2.2.1) * (if A.2.2.1 < 1 then 1 else A.2.2.1) = 0 then Xb A.2.2.2.2.1 v v else (0, 0, -1, v)) := rfl
theorem r_do_10 (S : St) (k : Nat) (A : Act9) (v : Int64) (P : List Fr) : r_do 10 S k A v P = (S, P, if 0 < sT S A.2.2.1.toNatClampNeg then Xb A.2.2.2.2.1 v v else (0, 0, -1, v)) := rfl
theorem r_do_11 (S : St) (k : Nat) (A : Act9) (v : Int64) (P : List Fr) : r_do 11 S k A v P = (S, P ++ [(2, oI A.2.2.2.2.2, v, [], 0)], Xb A.2.2.2.2.1 v v) := rfl
theorem r_do_12 (S : St) (k : Nat) (A : Act9) (v : Int64) (P : List Fr) : r_do 12 S k A v P = (S, P ++ [(1, A.2.2.1, v, [], 0)], Xb A.2.2.2.2.1 v v) := rfl
