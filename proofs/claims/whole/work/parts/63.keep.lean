theorem RM.kept {S : St} {P : List Fr} {X : Xs} {h h' : mm_H} (hR : RM S P X h) (e : ∀ q, 32 ≤ q → q < 55 → h'.2.2 q = h.2.2 q) : RM S P X h' := by
  obtain ⟨w, hm, r⟩ := hR
  exact ⟨w, fun q h1 h2 => (e q h1 h2).trans (hm q h1 h2), r⟩
theorem RC.kept {S : St} {h h' : mm_H} (r : RC S h) (e : ∀ q, AC q → h'.2.2 q = h.2.2 q) : RC S h' := by
  have l : ∀ q, 1 ≤ q → q < 32 → h'.2.2 q = h.2.2 q := fun q h1 h2 => e q (Or.inl ⟨h1, h2⟩)
  refine ⟨(l _ (by omega) (by omega)).trans r.ho, (l _ (by omega) (by omega)).trans r.ta, (l _ (by omega) (by omega)).trans r.be, r.qu.kept (fun a ha => l a (by omega) (by omega)), (l _ (by omega) (by omega)).trans r.ow, (l _ (by omega) (by omega)).trans r.ha, (l _ (by omega) (by omega)).trans r.ro, fun d hd => ?_, fun k hk => ?_, fun k hk => (e _ (AC_aa k)).trans (r.ac hk)⟩
  · obtain ⟨rr, h1, h2⟩ := r.rw hd
    exact ⟨rr, h1, (l _ (by omega) (by omega)).trans h2⟩
  · obtain ⟨g, hg⟩ := r.bel hk
    exact ⟨g, hg.kept (l _ (by omega) (by omega)) (l _ (by omega) (by omega))⟩
theorem rN_up {m : Nat} {x : Int32} (hm : m + 1 < 2 ^ 31) (h : rN m x) : rN (m + 1) x := by
  obtain ⟨j, hj, rfl⟩ := rN_of (by omega) h
  exact rN_nI hm (by omega)
theorem can_up {m : Nat} {s a b : Int32} (hm : m + 1 < 2 ^ 31) (h : p_can m s a b) : p_can (m + 1) s a b := by
  obtain ⟨h1, h2, h3, h4, h5, h6, h7⟩ := can_ref.mp h
  exact can_ref.mpr ⟨h1, h2, h3, h4, h5, fun z => rN_up hm (h6 z), fun z => rN_up hm (h7 z)⟩
theorem Lv.make {M : Nat} {S : St} {s a b : Int32} (h : Lv M S) (hm : sM S < 40) (hc : p_can (sM S) s a b) : Lv M (p_make S s a b) := by
  obtain ⟨⟨o1, o2, o3, o4, o5, o6⟩, h2, h3, h4⟩ := h
  refine ⟨⟨by show sM S + 1 ≤ 40; omega, fun j k hk => ?_, fun k hk => ?_, fun k hk x hx => rN_up (m := sM S) (by omega) (o4 k hk x hx), o5, o6⟩, h2, h3, fun k => ?_⟩
  · show k < sM S + 1
    have hk2 : fu (sH S) (sM S) (some (sM S)) j = some k := hk
    unfold fu at hk2
    split at hk2
    · cases hk2
      omega
    · have := o2 j k hk2
      omega
  · show okA (sM S + 1) (fu (sA S) (sM S) (p_act S s a b) k)
    have hk2 : k < sM S + 1 := hk
    by_cases e : k = sM S
    · subst e
      rw [fu_s]
      refine ⟨can_up (by omega) hc, fun q hq => ?_, fun q hq => ?_⟩
      · have hq2 : (if 8 ≤ s ∧ s ≤ 12 then sH S a.toNatClampNeg else none) = some q := hq
        split at hq2
        · have := o2 _ q hq2
          omega
        · cases hq2
      · have hq2 : (if s = 11 then sH S b.toNatClampNeg else none) = some q := hq
        split at hq2
        · have := o2 _ q hq2
          omega
        · cases hq2
    · rw [fu_n e]
      obtain ⟨k1, k2, k3⟩ := o3 k (by omega)
      exact ⟨can_up (by omega) k1, fun q hq => Nat.lt_succ_of_lt (k2 q hq), fun q hq => Nat.lt_succ_of_lt (k3 q hq)⟩
  · show fu (sB S) (sM S) 0 k ≤ M
    unfold fu
    split
    · omega
    · exact h4 k
theorem Lv.hearer {M : Nat} {S : St} {s a b : Int32} (h : Lv M S) : Lv M (p_hearer S s a b).2 := by
  unfold p_hearer
  split
  · rename_i hc
    split
    · exact h
    · exact h.make (by omega) hc
  · exact h
theorem Lv.tally {M : Nat} {S : St} {k : Int32} {v : Int64} (h : Lv M S) : Lv M (p_tally S k v).2 := by
  unfold p_tally
  split <;> exact h
theorem Lv.way {M : Nat} {S : St} {b w : Int32} (h : Lv M S) : Lv M (p_way S b w).2 := by
  unfold p_way
  split
  · rename_i hw
    refine ⟨h.1, h.2.1, fun k hk => ?_, h.2.2.2⟩
    show fu (sW S) b.toNatClampNeg w k = 0 ∨ fu (sW S) b.toNatClampNeg w k = 1
    unfold fu
    split
    · exact hw.2
    · exact h.2.2.1 k hk
  · exact h
theorem Lv.line {M : Nat} {S : St} {l : Nat → List Int32} (h : Lv M S) (hl : ∀ k, k < 6 → ∀ x ∈ l k, rN (sM S) x) : Lv M (uL S l) := ⟨⟨h.1.1, h.1.2.1, h.1.2.2.1, hl, h.1.2.2.2.2⟩, h.2⟩
theorem Lv.bind {M : Nat} {S : St} {x b : Int32} (h : Lv M S) : Lv M (p_bind S x b).2 := by
  unfold p_bind
  split
  · rename_i hx
    split
    · exact h
    · split
      · exact h
      · refine h.line (fun k hk y hy => ?_)
        unfold fu at hy
        split at hy
        · rename_i e
          subst e
          rcases List.mem_append.mp hy with z | z
          · exact h.1.2.2.2.1 _ hk y z
          · rw [List.mem_singleton.mp z]
            exact hx.1
        · exact h.1.2.2.2.1 k hk y hy
  · exact h
theorem Lv.leave {M : Nat} {S : St} {x b : Int32} (h : Lv M S) : Lv M (p_leave S x b).2 := by
  unfold p_leave
  split
  · refine h.line (fun k hk y hy => ?_)
    unfold fu at hy
    split at hy
    · rename_i e
      subst e
      exact h.1.2.2.2.1 _ hk y (List.mem_of_mem_erase hy)
    · exact h.1.2.2.2.1 k hk y hy
  · exact h
theorem Lv.has {M : Nat} {S : St} {i : Nat} {o : Option Nat} (h : Lv M S) (ho : ∀ k, o = some k → k < sM S) : Lv M (uH S (fu (sH S) i o)) := by
  refine ⟨⟨h.1.1, fun j k hk => ?_, h.1.2.2⟩, h.2⟩
  have hk2 : fu (sH S) i o j = some k := hk
  unfold fu at hk2
  split at hk2
  · exact ho k hk2
  · exact h.1.2.1 j k hk2
theorem Lv.take {M : Nat} {S : St} {x : Int32} (h : Lv M S) : Lv M (p_take S x).2 := by
  unfold p_take
  split
  · exact h.has (fun k hk => by cases hk)
  · exact h
theorem Lv.lend {M : Nat} {S : St} {x y : Int32} (h : Lv M S) : Lv M (p_lend S x y).2 := by
  unfold p_lend
  split
  · exact h.has (h.1.2.1 _)
  · exact h
theorem pm_tally (S : St) (k : Int32) (v : Int64) : sM (p_tally S k v).2 = sM S := by
  unfold p_tally
  split <;> rfl
theorem pm_way (S : St) (b w : Int32) : sM (p_way S b w).2 = sM S := by
  unfold p_way
  split <;> rfl
theorem pm_bind (S : St) (x b : Int32) : sM (p_bind S x b).2 = sM S := by
  unfold p_bind
  split
  · split
    · rfl
    · split <;> rfl
  · rfl
theorem pm_leave (S : St) (x b : Int32) : sM (p_leave S x b).2 = sM S := by
  unfold p_leave
  split <;> rfl
theorem pm_take (S : St) (x : Int32) : sM (p_take S x).2 = sM S := by
  unfold p_take
  split <;> rfl
theorem pm_lend (S : St) (x y : Int32) : sM (p_lend S x y).2 = sM S := by
  unfold p_lend
  split <;> rfl
theorem pm_answer (q : Int32 × St) : sM (m_answer q).2 = sM q.2 := by
  unfold m_answer
  split <;> rfl
theorem pm_dr {S : St} (h : Ok S) (m : Nat) (e : Int32) : sM (m_drain (m_perf 201) m e S).2 = sM S := (Go.drain (PfOk.perf 201) m e S h).2.1.1
theorem pm_ring {S : St} (h : Ok S) (b : Int32) (v : Int64) : sM (p_ring S b v).2 = sM S := by
  unfold p_ring
  split
  · split
    · rfl
    · have g := Go.ring (PfOk.perf 201) (k := b.toNatClampNeg) (v := v) (Ok.s0 h)
      exact (pm_answer _).trans ((pm_dr (g.1 (Ok.s0 h)) _ _).trans g.2.1.1)
  · rfl
theorem pm_drain {S : St} (h : Ok S) : sM (p_drain S).2 = sM S := by
  unfold p_drain
  split
  · rfl
  · exact (pm_answer _).trans (pm_dr (Ok.s0 h) _ _)
theorem pm_do {S : St} (h : Ok S) (x : Int32) (v : Int64) : sM (p_do S x v).2 = sM S := by
  unfold p_do
  split
  · split
    · rfl
    · have g := PfOk.perf 201 (uS S 0) (sH S x.toNatClampNeg) v (Ok.s0 h) (h.2.1 _)
      exact (pm_answer _).trans ((pm_dr (g.1 (Ok.s0 h)) _ _).trans g.2.1.1)
  · rfl
theorem pm_hearer (S : St) (s a b : Int32) : sM (p_hearer S s a b).2 = sM S ∨ (sM S < 40 ∧ sM (p_hearer S s a b).2 = sM S + 1) := by
  unfold p_hearer
  split
  · split
    · exact Or.inl rfl
    · exact Or.inr ⟨by omega, rfl⟩
  · exact Or.inl rfl
theorem aa_hi {k : Nat} (h : 2 ≤ k) : aa k = 53 + k := if_neg (by omega)
theorem nI_p2 (i : Nat) : nI i + 2 = nI (i + 2) := by rw [show (2 : Int32) = nI 2 from rfl, nI_add]
theorem nI_p3 (i : Nat) : nI i + 3 = nI (i + 3) := by rw [show (3 : Int32) = nI 3 from rfl, nI_add]
theorem nI_p4 (i : Nat) : nI i + 4 = nI (i + 4) := by rw [show (4 : Int32) = nI 4 from rfl, nI_add]
theorem and15 (x : Int32) : ∃ t : Nat, t < 16 ∧ x &&& 15 = nI t := by
  refine ⟨(x &&& 15).toBitVec.toNat, ?_, ?_⟩
  · rw [Int32.toBitVec_and, BitVec.toNat_and]
    exact Nat.lt_succ_of_le Nat.and_le_right
  · apply Int32.toBitVec_inj.mp
    show _ = BitVec.ofNat 32 _
    rw [BitVec.ofNat_toNat, BitVec.setWidth_eq]
theorem law_end {n i : Nat} (hn : n ≤ 2048) (hi : i ≤ 2048) : (Int32.ofNat n - 4 < nI i) ↔ n < i + 4 := by
  have e1 : (Int32.ofNat n - 4).toInt = (n : Int) - 4 := by
    have e0 : (nI n).toInt = (n : Int) := nI_toInt (by omega)
    have e4 : (4 : Int32).toInt = 4 := rfl
    show (nI n - 4).toInt = _
    rw [Int32.toInt_sub, e0, e4]
    exact Int.bmod_eq_of_le (by omega) (by omega)
  rw [Int32.lt_iff_toInt_lt, e1, nI_toInt (by omega)]
  omega
