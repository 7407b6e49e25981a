/-! THE STATE that class and reference share: counts, tallies, ways, lines, the queue, how many hearers, their acts (sort, a, b, tally as made, two acts as made), how often each began, which act each hearer has, steps of the call, ringings under way -/
abbrev Act9 : Type := Int32 × Int32 × Int32 × Int64 × Option Nat × Option Nat
abbrev St : Type := (Nat → Int32) × (Nat → Int64) × (Nat → Int32) × (Nat → List Int32) × List (Int32 × Int64) × Nat × (Nat → Act9) × (Nat → Nat) × (Nat → Option Nat) × Nat × Nat
def sC (S : St) : Nat → Int32 := S.1
def sT (S : St) : Nat → Int64 := S.2.1
def sW (S : St) : Nat → Int32 := S.2.2.1
def sL (S : St) : Nat → List Int32 := S.2.2.2.1
def sQ (S : St) : List (Int32 × Int64) := S.2.2.2.2.1
def sM (S : St) : Nat := S.2.2.2.2.2.1
def sA (S : St) : Nat → Act9 := S.2.2.2.2.2.2.1
def sB (S : St) : Nat → Nat := S.2.2.2.2.2.2.2.1
def sH (S : St) : Nat → Option Nat := S.2.2.2.2.2.2.2.2.1
def sS (S : St) : Nat := S.2.2.2.2.2.2.2.2.2.1
def sD (S : St) : Nat := S.2.2.2.2.2.2.2.2.2.2
def uC (S : St) (x : Nat → Int32) : St := (x, sT S, sW S, sL S, sQ S, sM S, sA S, sB S, sH S, sS S, sD S)
def uT (S : St) (x : Nat → Int64) : St := (sC S, x, sW S, sL S, sQ S, sM S, sA S, sB S, sH S, sS S, sD S)
def uW (S : St) (x : Nat → Int32) : St := (sC S, sT S, x, sL S, sQ S, sM S, sA S, sB S, sH S, sS S, sD S)
def uL (S : St) (x : Nat → List Int32) : St := (sC S, sT S, sW S, x, sQ S, sM S, sA S, sB S, sH S, sS S, sD S)
def uQ (S : St) (x : List (Int32 × Int64)) : St := (sC S, sT S, sW S, sL S, x, sM S, sA S, sB S, sH S, sS S, sD S)
def uB (S : St) (x : Nat → Nat) : St := (sC S, sT S, sW S, sL S, sQ S, sM S, sA S, x, sH S, sS S, sD S)
def uH (S : St) (x : Nat → Option Nat) : St := (sC S, sT S, sW S, sL S, sQ S, sM S, sA S, sB S, x, sS S, sD S)
def uS (S : St) (x : Nat) : St := (sC S, sT S, sW S, sL S, sQ S, sM S, sA S, sB S, sH S, x, sD S)
def uD (S : St) (x : Nat) : St := (sC S, sT S, sW S, sL S, sQ S, sM S, sA S, sB S, sH S, sS S, x)
def inc (f : Nat → Int32) (k : Nat) : Nat → Int32 := fu f k (f k + 1)
/-- where the k-th act lies -/
def aa (k : Nat) : Nat := if k < 2 then 30 + k else 53 + k
theorem aa_or (k : Nat) : (k < 2 ∧ aa k = 30 + k) ∨ (2 ≤ k ∧ aa k = 53 + k) := by
  unfold aa
  by_cases h : k < 2
  · rw [if_pos h]; exact Or.inl ⟨h, rfl⟩
  · rw [if_neg h]; exact Or.inr ⟨by omega, rfl⟩
theorem aa_inj {j k : Nat} (h : aa j = aa k) : j = k := by
  rcases aa_or j with ⟨a, b⟩ | ⟨a, b⟩ <;> rcases aa_or k with ⟨c, d⟩ | ⟨c, d⟩ <;> omega
def hoL (S : St) : List Value := [.ref 2, .ref 3, .ref 4, .ref 7, .ref 8, .int (nI (sM S)), .ref 9, .int (nI (sD S)), .int (nI (sS S)), .int (sC S 1), .int (sC S 2), .int (sC S 3), .int (sC S 4), .int (sC S 5), .int (sC S 6), .int (sC S 8), .int (sC S 9)]
def acL (a : Act9) (n : Nat) : List Value := [.int a.1, .int a.2.1, .int a.2.2.1, .long a.2.2.2.1, va_rf (a.2.2.2.2.1.map aa), va_rf (a.2.2.2.2.2.map aa), .int (nI n)]
/-- the class's cells hold the state S -/
def RC (S : St) (h : mm_H) : Prop :=
  h.2.2 1 = some (3, hoL S) ∧ h.2.2 2 = some (6, rg 8 (fun j => .long (sT S j))) ∧ h.2.2 3 = some (8, rg 6 (fun j => .ref (18 + 2 * j))) ∧ QR h (sQ S) ∧
  h.2.2 7 = some (7, rg 40 (fun j => va_rf (if j < sM S then some (aa j) else none))) ∧ h.2.2 8 = some (7, rg 40 (fun j => va_rf ((sH S j).map aa))) ∧ h.2.2 9 = some (9, rg 8 (fun j => .ref (10 + j))) ∧
  (∀ d, d < 8 → ∃ rr : List Int32, rr.length = 12 ∧ h.2.2 (10 + d) = some (5, rr.map Value.int)) ∧ (∀ k, k < 6 → ∃ g, bl h (18 + 2 * k) (19 + 2 * k) (sL S k) g (sW S k)) ∧ (∀ k, k < sM S → h.2.2 (aa k) = some (0, acL (sA S k) (sB S k)))
theorem RC.ho {S : St} {h : mm_H} (r : RC S h) : h.2.2 1 = some (3, hoL S) := r.1
theorem RC.ta {S : St} {h : mm_H} (r : RC S h) : h.2.2 2 = some (6, rg 8 (fun j => .long (sT S j))) := r.2.1
theorem RC.be {S : St} {h : mm_H} (r : RC S h) : h.2.2 3 = some (8, rg 6 (fun j => .ref (18 + 2 * j))) := r.2.2.1
theorem RC.qu {S : St} {h : mm_H} (r : RC S h) : QR h (sQ S) := r.2.2.2.1
theorem RC.ow {S : St} {h : mm_H} (r : RC S h) : h.2.2 7 = some (7, rg 40 (fun j => va_rf (if j < sM S then some (aa j) else none))) := r.2.2.2.2.1
theorem RC.ha {S : St} {h : mm_H} (r : RC S h) : h.2.2 8 = some (7, rg 40 (fun j => va_rf ((sH S j).map aa))) := r.2.2.2.2.2.1
theorem RC.ro {S : St} {h : mm_H} (r : RC S h) : h.2.2 9 = some (9, rg 8 (fun j => .ref (10 + j))) := r.2.2.2.2.2.2.1
theorem RC.rw {S : St} {h : mm_H} (r : RC S h) {d : Nat} (hd : d < 8) : ∃ rr : List Int32, rr.length = 12 ∧ h.2.2 (10 + d) = some (5, rr.map Value.int) := r.2.2.2.2.2.2.2.1 d hd
theorem RC.bel {S : St} {h : mm_H} (r : RC S h) {k : Nat} (hk : k < 6) : ∃ g, bl h (18 + 2 * k) (19 + 2 * k) (sL S k) g (sW S k) := r.2.2.2.2.2.2.2.2.1 k hk
theorem RC.ac {S : St} {h : mm_H} (r : RC S h) {k : Nat} (hk : k < sM S) : h.2.2 (aa k) = some (0, acL (sA S k) (sB S k)) := r.2.2.2.2.2.2.2.2.2 k hk
theorem QR.kept {h h' : mm_H} {q : List (Int32 × Int64)} (hq : QR h q) (e : ∀ a, a = 4 ∨ a = 5 ∨ a = 6 → h'.2.2 a = h.2.2 a) : QR h' q := by
  obtain ⟨hd, fb, fv, h4, h5, h6, r⟩ := hq
  exact ⟨hd, fb, fv, (e 4 (by simp)).trans h4, (e 5 (by simp)).trans h5, (e 6 (by simp)).trans h6, r⟩
theorem bl.kept {h h' : mm_H} {b a : Nat} {l g : List Int32} {w : Int32} (hb : bl h b a l g w) (e1 : h'.2.2 b = h.2.2 b) (e2 : h'.2.2 a = h.2.2 a) : bl h' b a l g w := ⟨e1.trans hb.1, e2.trans hb.2.1, hb.2.2⟩
/-- the cells of the class, as the state grows (its acts from 55 on) -/
def AC (q : Nat) : Prop := (1 ≤ q ∧ q < 32) ∨ 55 ≤ q
/-- the same, but for the rows of those to be told -/
def AR (q : Nat) : Prop := AC q ∧ ¬ (10 ≤ q ∧ q < 18)
theorem AC_aa (k : Nat) : AC (aa k) := by
  unfold AC
  rcases aa_or k with ⟨a, b⟩ | ⟨a, b⟩ <;> omega
theorem RC.upHo {S S' : St} {h : mm_H} {c : List Value} (r : RC S h) (hc : c = hoL S') (e : sT S' = sT S ∧ sL S' = sL S ∧ sW S' = sW S ∧ sQ S' = sQ S ∧ sM S' = sM S ∧ sA S' = sA S ∧ sB S' = sB S ∧ sH S' = sH S) : RC S' (mm_up h 1 (3, c)) := by
  obtain ⟨e1, e2, e3, e4, e5, e6, e7, e8⟩ := e
  subst hc
  refine ⟨up_s _ _ _, ?_, ?_, ?_, ?_, ?_, ?_, ?_, ?_, ?_⟩
  · rw [e1]; exact (up_n (by decide)).trans r.ta
  · exact (up_n (by decide)).trans r.be
  · rw [e4]; exact r.qu.kept (fun a ha => up_n (by omega))
  · rw [e5]; exact (up_n (by decide)).trans r.ow
  · rw [e8]; exact (up_n (by decide)).trans r.ha
  · exact (up_n (by decide)).trans r.ro
  · intro d hd
    obtain ⟨rr, h1, h2⟩ := r.rw hd
    exact ⟨rr, h1, (up_n (by omega)).trans h2⟩
  · intro k hk
    obtain ⟨g, hg⟩ := r.bel hk
    rw [e2, e3]
    exact ⟨g, hg.kept (up_n (by omega)) (up_n (by omega))⟩
  · intro k hk
    rw [e5] at hk
    rw [e6, e7]
    exact (up_n (by rcases aa_or k with ⟨a, b⟩ | ⟨a, b⟩ <;> omega)).trans (r.ac hk)
theorem RC.upTa {S : St} {h : mm_H} {t : Nat → Int64} {c : List Value} (r : RC S h) (hc : c = rg 8 (fun j => .long (t j))) : RC (uT S t) (mm_up h 2 (6, c)) := by
  subst hc
  refine ⟨(up_n (by decide)).trans r.ho, up_s _ _ _, (up_n (by decide)).trans r.be, r.qu.kept (fun a ha => up_n (by omega)), (up_n (by decide)).trans r.ow, (up_n (by decide)).trans r.ha, (up_n (by decide)).trans r.ro, ?_, ?_, ?_⟩
  · intro d hd
    obtain ⟨rr, h1, h2⟩ := r.rw hd
    exact ⟨rr, h1, (up_n (by omega)).trans h2⟩
  · intro k hk
    obtain ⟨g, hg⟩ := r.bel hk
    exact ⟨g, hg.kept (up_n (by omega)) (up_n (by omega))⟩
  · intro k hk
    exact (up_n (by rcases aa_or k with ⟨a, b⟩ | ⟨a, b⟩ <;> omega)).trans (r.ac hk)
theorem RC.upBe {S : St} {h h' : mm_H} {k : Nat} {l : List Int32} {w : Int32} (r : RC S h) (hk : k < 6) (hf : fr (fun q => q = 18 + 2 * k ∨ q = 19 + 2 * k) h h') (hb : ∃ g, bl h' (18 + 2 * k) (19 + 2 * k) l g w) : RC (uW (uL S (fu (sL S) k l)) (fu (sW S) k w)) h' := by
  have K : ∀ q, ¬ (q = 18 + 2 * k ∨ q = 19 + 2 * k) → h'.2.2 q = h.2.2 q := hf.2.2
  refine ⟨(K _ (by omega)).trans r.ho, (K _ (by omega)).trans r.ta, (K _ (by omega)).trans r.be, r.qu.kept (fun a ha => K _ (by omega)), (K _ (by omega)).trans r.ow, (K _ (by omega)).trans r.ha, (K _ (by omega)).trans r.ro, ?_, ?_, ?_⟩
  · intro d hd
    obtain ⟨rr, h1, h2⟩ := r.rw hd
    exact ⟨rr, h1, (K _ (by omega)).trans h2⟩
  · intro j hj
    show ∃ g, bl h' (18 + 2 * j) (19 + 2 * j) (fu (sL S) k l j) g (fu (sW S) k w j)
    by_cases e : j = k
    · subst e
      rw [fu_s, fu_s]
      exact hb
    · rw [fu_n e, fu_n e]
      obtain ⟨g, hg⟩ := r.bel hj
      exact ⟨g, hg.kept (K _ (by omega)) (K _ (by omega))⟩
  · intro j hj
    exact (K _ (by rcases aa_or j with ⟨a, b⟩ | ⟨a, b⟩ <;> omega)).trans (r.ac hj)
theorem RC.upQu {S : St} {h h' : mm_H} {q : List (Int32 × Int64)} (r : RC S h) (hf : fr Aq h h') (hq : QR h' q) : RC (uQ S q) h' := by
  have K : ∀ q, ¬ (q = 4 ∨ q = 5 ∨ q = 6) → h'.2.2 q = h.2.2 q := hf.2.2
  refine ⟨(K _ (by omega)).trans r.ho, (K _ (by omega)).trans r.ta, (K _ (by omega)).trans r.be, hq, (K _ (by omega)).trans r.ow, (K _ (by omega)).trans r.ha, (K _ (by omega)).trans r.ro, ?_, ?_, ?_⟩
  · intro d hd
    obtain ⟨rr, h1, h2⟩ := r.rw hd
    exact ⟨rr, h1, (K _ (by omega)).trans h2⟩
  · intro j hj
    obtain ⟨g, hg⟩ := r.bel hj
    exact ⟨g, hg.kept (K _ (by omega)) (K _ (by omega))⟩
  · intro j hj
    exact (K _ (by rcases aa_or j with ⟨a, b⟩ | ⟨a, b⟩ <;> omega)).trans (r.ac hj)
theorem RC.upRo {S : St} {h h' : mm_H} {d : Nat} (r : RC S h) (hd : d < 8) (hf : fr (fun q => q = 10 + d) h h') (hr : ∃ rr : List Int32, rr.length = 12 ∧ h'.2.2 (10 + d) = some (5, rr.map Value.int)) : RC S h' := by
  have K : ∀ q, ¬ (q = 10 + d) → h'.2.2 q = h.2.2 q := hf.2.2
  refine ⟨(K _ (by omega)).trans r.ho, (K _ (by omega)).trans r.ta, (K _ (by omega)).trans r.be, r.qu.kept (fun a ha => K _ (by omega)), (K _ (by omega)).trans r.ow, (K _ (by omega)).trans r.ha, (K _ (by omega)).trans r.ro, ?_, ?_, ?_⟩
  · intro e he
    by_cases ed : e = d
    · subst ed
      exact hr
    · obtain ⟨rr, h1, h2⟩ := r.rw he
      exact ⟨rr, h1, (K _ (by omega)).trans h2⟩
  · intro j hj
    obtain ⟨g, hg⟩ := r.bel hj
    exact ⟨g, hg.kept (K _ (by omega)) (K _ (by omega))⟩
  · intro j hj
    exact (K _ (by rcases aa_or j with ⟨a, b⟩ | ⟨a, b⟩ <;> omega)).trans (r.ac hj)
theorem RC.upAc {S : St} {h : mm_H} {k n : Nat} {c : List Value} (r : RC S h) (hk : k < sM S) (hc : c = acL (sA S k) n) : RC (uB S (fu (sB S) k n)) (mm_up h (aa k) (0, c)) := by
  subst hc
  have hak := aa_or k
  refine ⟨(up_n (by omega)).trans r.ho, (up_n (by omega)).trans r.ta, (up_n (by omega)).trans r.be, r.qu.kept (fun a ha => up_n (by omega)), (up_n (by omega)).trans r.ow, (up_n (by omega)).trans r.ha, (up_n (by omega)).trans r.ro, ?_, ?_, ?_⟩
  · intro d hd
    obtain ⟨rr, h1, h2⟩ := r.rw hd
    exact ⟨rr, h1, (up_n (by omega)).trans h2⟩
  · intro j hj
    obtain ⟨g, hg⟩ := r.bel hj
    exact ⟨g, hg.kept (up_n (by omega)) (up_n (by omega))⟩
  · intro j hj
    show (mm_up h (aa k) (0, acL (sA S k) n)).2.2 (aa j) = some (0, acL (sA S j) (fu (sB S) k n j))
    by_cases e : j = k
    · subst e
      rw [up_s, fu_s]
    · rw [fu_n e]
      exact (up_n (fun z => e (aa_inj z))).trans (r.ac hj)
theorem RC.upHa {S : St} {h : mm_H} {i : Nat} {o : Option Nat} {c : List Value} (r : RC S h) (hc : c = rg 40 (fun j => va_rf ((fu (sH S) i o j).map aa))) : RC (uH S (fu (sH S) i o)) (mm_up h 8 (7, c)) := by
  subst hc
  refine ⟨(up_n (by decide)).trans r.ho, (up_n (by decide)).trans r.ta, (up_n (by decide)).trans r.be, r.qu.kept (fun a ha => up_n (by omega)), (up_n (by decide)).trans r.ow, up_s _ _ _, (up_n (by decide)).trans r.ro, ?_, ?_, ?_⟩
  · intro d hd
    obtain ⟨rr, h1, h2⟩ := r.rw hd
    exact ⟨rr, h1, (up_n (by omega)).trans h2⟩
  · intro k hk
    obtain ⟨g, hg⟩ := r.bel hk
    exact ⟨g, hg.kept (up_n (by omega)) (up_n (by omega))⟩
  · intro k hk
    exact (up_n (by rcases aa_or k with ⟨a, b⟩ | ⟨a, b⟩ <;> omega)).trans (r.ac hk)
/-! numbers within a range -/
abbrev rN (n : Nat) (x : Int32) : Prop := ¬ x < 0 ∧ x < nI n
abbrev rL (v : Int64) : Prop := ¬ v < 0 ∧ v < 8
theorem rN_of {n : Nat} {x : Int32} (hn : n < 2 ^ 31) (h : rN n x) : ∃ j, j < n ∧ x = nI j := by
  obtain ⟨j, hj, rfl⟩ := nI_of h.1
  exact ⟨j, (nI_ltI hj hn).mp h.2, rfl⟩
theorem rN_nI {n j : Nat} (hn : n < 2 ^ 31) (h : j < n) : rN n (nI j) := ⟨nI_pos (by omega), nI_lt h hn⟩
theorem rL_of (x : Int32) : rL x.toInt64 ↔ rN 8 x := by
  unfold rL rN
  rw [Int64.lt_iff_toInt_lt, Int64.lt_iff_toInt_lt, Int32.lt_iff_toInt_lt, Int32.lt_iff_toInt_lt, Int32.toInt_toInt64, nI_toInt (by omega)]
  exact Iff.rfl
theorem fu_id {α : Type} (f : Nat → α) (k : Nat) : fu f k (f k) = f := by
  funext j
  unfold fu
  by_cases h : j = k <;> simp [h]
/-! what the calls answer and do -/
def p_tally (S : St) (k : Int32) (v : Int64) : Int32 × St := if rN 8 k then (1, uT S (fu (sT S) k.toNatClampNeg v)) else (-2, S)
def p_way (S : St) (b w : Int32) : Int32 × St := if rN 6 b ∧ (w = 0 ∨ w = 1) then (sW S b.toNatClampNeg, uW S (fu (sW S) b.toNatClampNeg w)) else (-2, S)
def p_bind (S : St) (x b : Int32) : Int32 × St := if rN (sM S) x ∧ rN 6 b then (if x ∈ sL S b.toNatClampNeg then (-1, S) else if (sL S b.toNatClampNeg).length = 12 then (-3, S) else (nI (sL S b.toNatClampNeg).length, uL S (fu (sL S) b.toNatClampNeg (sL S b.toNatClampNeg ++ [x])))) else (-2, S)
def p_leave (S : St) (x b : Int32) : Int32 × St := if rN (sM S) x ∧ rN 6 b then (pls (sL S b.toNatClampNeg) x, uL S (fu (sL S) b.toNatClampNeg ((sL S b.toNatClampNeg).erase x))) else (-2, S)
def p_take (S : St) (x : Int32) : Int32 × St := if rN (sM S) x then (if sH S x.toNatClampNeg = none then 0 else 1, uH S (fu (sH S) x.toNatClampNeg none)) else (-2, S)
def p_lend (S : St) (x y : Int32) : Int32 × St := if rN (sM S) x ∧ rN (sM S) y then (1, uH S (fu (sH S) x.toNatClampNeg (sH S y.toNatClampNeg))) else (-2, S)
def p_get (S : St) (k : Int32) : Int64 := if rN 8 k then sT S k.toNatClampNeg else 0
def p_line (S : St) (b x : Int32) : Int32 := if rN 6 b then (if x < 0 then -1 else ((sL S b.toNatClampNeg)[x.toNatClampNeg]?).getD (-1)) else -2
def p_queued (S : St) (x : Int32) : Int32 := if x < 0 then -1 else (((sQ S)[x.toNatClampNeg]?).map (fun e => e.1)).getD (-1)
def p_count (S : St) (x : Int32) : Int32 := if rN 10 x then (if x = 0 then nI (sM S) else if x = 7 then nI (sQ S).length else sC S x.toNatClampNeg) else -2
def p_done (S : St) (x : Int32) : Int32 := if rN (sM S) x then nI (sB S x.toNatClampNeg) else -2
/-- a call's end in the class: the answer, the state, and nothing else written -/
def cP (q : Int32 × St) (h : mm_H) : Option Value → mm_H → Prop := fun r h' => r = some (.int q.1) ∧ RC q.2 h' ∧ fr AR h h'
