/-! AN ARRAY OF ARRAYS OF INTS, made at once: the machine's state once i of its N rows of K ints are there -/
def mna_f (a i j : Nat) : Value := if j < i then .ref (a + 1 + j) else .null
theorem mna_f0 (a : Nat) : mna_f a 0 = fun _ => .null := funext fun j => if_neg (Nat.not_lt_zero j)
theorem mna_fs (a i : Nat) : updV (mna_f a i) i (.ref (a + 1 + i)) = mna_f a (i + 1) := by
  funext j
  unfold updV mna_f
  by_cases e : j = i
  · rw [if_pos e, if_pos (by omega), e]
  · rw [if_neg e]
    by_cases e2 : j < i
    · rw [if_pos e2, if_pos (by omega)]
    · rw [if_neg e2, if_neg (by omega)]
def mna_T (T : State) (cA cB : ClassId) (N K : Nat) : Nat → State
  | 0 => T.pushCell (arrV cA N (mna_f T.heap.size 0))
  | i + 1 => ((mna_T T cA cB N K i).pushCell (arrV cB K (fun _ => .int 0))).setCell T.heap.size (arrV cA N (mna_f T.heap.size (i + 1)))
theorem mna_facts (T : State) (cA cB : ClassId) (N K : Nat) : ∀ i, (mna_T T cA cB N K i).heap.size = T.heap.size + 1 + i ∧ (mna_T T cA cB N K i).heap[T.heap.size]? = some (arrV cA N (mna_f T.heap.size i)) ∧ (mna_T T cA cB N K i).vm = T.vm ∧ (mna_T T cA cB N K i).slotsUsed = T.slotsUsed + N + i * K ∧ (∀ q, q < T.heap.size → (mna_T T cA cB N K i).heap[q]? = T.heap[q]?) ∧ ∀ j, j < i → (mna_T T cA cB N K i).heap[T.heap.size + 1 + j]? = some (arrV cB K (fun _ => .int 0)) := by
  intro i
  induction i with
  | zero => exact ⟨by simp [mna_T], by simp [mna_T], rfl, by simp [mna_T, arrV_size], fun q hq => State.heap_pushCell_of_lt _ _ hq, fun j hj => absurd hj (Nat.not_lt_zero _)⟩
  | succ i ih =>
    obtain ⟨f1, f2, f3, f4, f5, f6⟩ := ih
    have hlt : T.heap.size < (mna_T T cA cB N K i).heap.size := by omega
    have hc : ((mna_T T cA cB N K i).pushCell (arrV cB K (fun _ => .int 0))).heap[T.heap.size]? = some (arrV cA N (mna_f T.heap.size i)) := (State.heap_pushCell_of_lt _ _ hlt).trans f2
    refine ⟨?_, State.heap_setCell_self hc, ?_, ?_, fun q hq => ?_, fun j hj => ?_⟩
    · simp [mna_T, State.setCell, f1]
      omega
    · simp [mna_T, f3]
    · simp [mna_T, f4, arrV_size, Nat.succ_mul]
      omega
    · exact (State.heap_setCell_other (Nat.ne_of_gt hq)).trans ((State.heap_pushCell_of_lt _ _ (show q < (mna_T T cA cB N K i).heap.size by omega)).trans (f5 q hq))
    · refine (State.heap_setCell_other (show T.heap.size ≠ T.heap.size + 1 + j by omega)).trans ?_
      by_cases e : j = i
      · rw [e, ← f1]
        exact State.heap_pushCell_size _ _
      · exact (State.heap_pushCell_of_lt _ _ (show T.heap.size + 1 + j < (mna_T T cA cB N K i).heap.size by omega)).trans (f6 j (by omega))
theorem mna_top (T : State) (f : JFrame) (cA cB : ClassId) (N K : Nat) : ∀ i, mna_T (T.setTop f) cA cB N K i = (mna_T T cA cB N K i).setTop f := by
  intro i
  induction i with
  | zero => rfl
  | succ i ih => simp only [mna_T, ih, State.heap_setTop, State.pushCell_setTop, State.setCell_setTop]
section GRW
variable {E : CtlPost} {e : Env} {d : Bool} {acts : List Action} {s : State}
theorem mna_new {cA comp : ClassId} {k : Class} {type : FieldType} {n : Nat} {v : Value} (hk : s.vm.classes[cA]? = some k) (hkind : k.kind = .array comp type) (hl : ¬ n > e.platform.arrayLengthLimit) (hh : ¬ n * componentBytes type > e.platform.maxHeapBytes) (hf : fits type v = true) (hv : v.isDefault = true) {Q : Addr → Pre} (h1 : s.heap.size < e.platform.maxCells) (h2 : s.slotsUsed + n ≤ e.platform.maxSlots) (hq : Q s.heap.size d acts (s.pushCell (arrV cA n (fun _ => v)))) : wp (Jvm.newArray cA n v) Q E e d acts s := by
  have a1 : ∀ i w, (Array.replicate n v)[i]? = some w → s.fitsSlot cA .none i w = true := by
    intro i w hw
    rw [Array.getElem?_replicate] at hw
    split at hw
    · cases hw
      simp [State.fitsSlot, State.slotType?, hk, hkind, hf]
    · cases hw
  have a2 : allocActs (Array.replicate n v) s.heap.size acts = acts := by
    have : ((Array.replicate n v).all (·.isDefault)) = true := by
      rw [Array.all_replicate]
      split <;> simp [hv]
    unfold allocActs
    rw [if_pos this]
  rw [← arrV_new] at hq
  simp only [Jvm.newArray, Jvm.arrayFits, wp_bind', W.ask, W.ite, hl, if_false, wp_pure', W.theClass, hk, hkind, hh, W.alloc, W.stop, Option.some.injEq, exists_eq_left', Array.size_replicate, a2]
  rw [if_neg (by omega)]
  exact ⟨h1, h2, a1, hq⟩
theorem mna_row {cB cm : ClassId} {k : Class} {m : Int32} (hk : s.vm.classes[cB]? = some k) (hkind : k.kind = .array cm .int) (hm : ¬ m < 0) (hl : ¬ m.toNatClampNeg > e.platform.arrayLengthLimit) (hh : ¬ m.toNatClampNeg * componentBytes .int > e.platform.maxHeapBytes) (h1 : s.heap.size < e.platform.maxCells) (h2 : s.slotsUsed + m.toNatClampNeg ≤ e.platform.maxSlots) {Q : Addr → Pre} (hq : Q s.heap.size d acts (s.pushCell (arrV cB m.toNatClampNeg (fun _ => .int 0)))) : wp (multianewarray.make cB [m]) Q E e d acts s := by
  rw [multianewarray.make]
  simp only [wp_bind', W.ite, hm, if_false, wp_pure', W.theClass, hk, hkind, Option.some.injEq, exists_eq_left']
  exact mna_new (v := .int 0) hk hkind hl hh rfl rfl h1 h2 hq
theorem mna_loop {cA cB : ClassId} {N K : Nat} (f : Nat → PUnit → Sem (ForInStep PUnit)) (hf : ∀ (i : Nat) (d' : Bool) (acts' : List Action) (R : ForInStep PUnit → Pre), i < N → (∀ d'' acts'', R (ForInStep.yield PUnit.unit) d'' acts'' (mna_T s cA cB N K (i + 1))) → wp (f i PUnit.unit) R E e d' acts' (mna_T s cA cB N K i)) : ∀ (x i : Nat) (d' : Bool) (acts' : List Action) (R : PUnit → Pre), x + i = N → (∀ d'' acts'', R PUnit.unit d'' acts'' (mna_T s cA cB N K N)) → wp (forIn (List.range' i x 1) PUnit.unit f) R E e d' acts' (mna_T s cA cB N K i) := by
  intro x
  induction x with
  | zero =>
    intro i d' acts' R hi hR
    obtain rfl : i = N := by omega
    simp only [List.range'_zero, List.forIn_nil, wp_pure']
    exact hR _ _
  | succ x ih =>
    intro i d' acts' R hi hR
    simp only [List.range'_succ, List.forIn_cons, wp_bind']
    refine hf i d' acts' _ (by omega) (fun d'' acts'' => ?_)
    exact ih (i + 1) d'' acts'' R (by omega) hR
theorem mna_make {cA cB cm : ClassId} {kA kB : Class} {n m : Int32} (hA : s.vm.classes[cA]? = some kA) (hAk : kA.kind = .array cB (.array .int)) (hB : s.vm.classes[cB]? = some kB) (hBk : kB.kind = .array cm .int) (hn : ¬ n < 0) (hm : ¬ m < 0) (hl1 : ¬ n.toNatClampNeg > e.platform.arrayLengthLimit) (hh1 : ¬ n.toNatClampNeg * componentBytes (.array .int) > e.platform.maxHeapBytes) (hl2 : ¬ m.toNatClampNeg > e.platform.arrayLengthLimit) (hh2 : ¬ m.toNatClampNeg * componentBytes .int > e.platform.maxHeapBytes) (hc : s.heap.size + 1 + n.toNatClampNeg ≤ e.platform.maxCells) (hs : s.slotsUsed + n.toNatClampNeg + n.toNatClampNeg * m.toNatClampNeg ≤ e.platform.maxSlots) {Q : Addr → Pre} (hq : ∀ d' acts', Q s.heap.size d' acts' (mna_T s cA cB n.toNatClampNeg m.toNatClampNeg n.toNatClampNeg)) : wp (multianewarray.make cA [n, m]) Q E e d acts s := by
  have hfd : ([m].find? (· < 0)) = none := by simp [hm]
  generalize hN : n.toNatClampNeg = N at *
  generalize hK : m.toNatClampNeg = K at *
  rw [multianewarray.make]
  simp only [wp_bind', W.ite, hn, if_false, wp_pure', W.theClass, hA, hAk, Option.some.injEq, exists_eq_left', hN]
  refine mna_new (v := .null) hA hAk hl1 hh1 rfl rfl (by omega) (by have := Nat.zero_le (N * K); omega) ?_
  simp only [hfd]
  rw [ite_self, wp_bind', Std.Legacy.Range.forIn_eq_forIn_range']
  have hsz : ([:N] : Std.Legacy.Range).size = N := by simp [Std.Legacy.Range.size]
  rw [hsz, ← mna_f0 s.heap.size]
  refine mna_loop (s := s) (cA := cA) (cB := cB) (N := N) (K := K) _ (fun i d' acts' R hi hR => ?_) N 0 d acts _ (by omega) (fun d'' acts'' => ?_)
  · obtain ⟨f1, f2, f3, f4, -, -⟩ := mna_facts s cA cB N K i
    have hmul : i * K + K ≤ N * K := by
      have := Nat.mul_le_mul_right K (show i + 1 ≤ N by omega)
      rw [Nat.succ_mul] at this
      exact this
    have hlt : s.heap.size < (mna_T s cA cB N K i).heap.size := by omega
    simp only [wp_bind']
    subst hK
    refine mna_row (by rw [f3]; exact hB) hBk hm hl2 hh2 (by rw [f1]; omega) (by rw [f4]; omega) ?_
    simp only [wp_bind', W.writeLoc, wp_pure']
    refine ⟨arrV cA N (mna_f s.heap.size i), (State.heap_pushCell_of_lt _ _ hlt).trans f2, (fun z => by cases z), by rw [arrV_size]; omega, ?_, ?_⟩
    · simp [State.fitsSlot, State.slotType?, arrV, f3, hA, hAk, fits]
    · rw [arrV_store, f1, mna_fs]
      exact hR _ _
  · simp only [wp_pure']
    exact hq _ _
end GRW
