/-! AN ARRAY OF ARRAYS OF INTS, made at once: the machine's state once i of its N rows of K ints are there -/
def mna_f (a i j : Nat) : Value := if j < i then .ref (a + 1 + j) else .null
theorem mna_f0 (a : Nat) : mna_f a 0 = fun _ => .null := funext fun j => if_neg (Nat.not_lt_zero j)
theorem mna_fs (a i : Nat) : updV (mna_f a i) i (.ref (a + 1 + i)) = mna_f a (i + 1) := by
  funext j
  unfold updV mna_f
  by_cases e : j = i
  · rw [if_pos e, if_pos (by omega), e]
  · rw [if_neg e]
    by_cases e2 : j < i
    · rw [if_pos e2, if_pos (by omega)]
    · rw [if_neg e2, if_neg (by omega)]
def mna_T (T : State) (cA cB : ClassId) (N K : Nat) : Nat → State
  | 0 => T.pushCell (arrV cA N (mna_f T.heap.size 0))
  | i + 1 => ((mna_T T cA cB N K i).pushCell (arrV cB K (fun _ => .int 0))).setCell T.heap.size (arrV cA N (mna_f T.heap.size (i + 1)))
theorem mna_facts (T : State) (cA cB : ClassId) (N K : Nat) : ∀ i, (mna_T T cA cB N K i).heap.size = T.heap.size + 1 + i ∧ (mna_T T cA cB N K i).heap[T.heap.size]? = some (arrV cA N (mna_f T.heap.size i)) ∧ (mna_T T cA cB N K i).vm = T.vm ∧ (mna_T T cA cB N K i).slotsUsed = T.slotsUsed + N + i * K ∧ (∀ q, q < T.heap.size → (mna_T T cA cB N K i).heap[q]? = T.heap[q]?) ∧ ∀ j, j < i → (mna_T T cA cB N K i).heap[T.heap.size + 1 + j]? = some (arrV cB K (fun _ => .int 0)) := by
  intro i
  induction i with
  | zero => exact ⟨by simp [mna_T], by simp [mna_T], rfl, by simp [mna_T, arrV_size], fun q hq => State.heap_pushCell_of_lt _ _ hq, fun j hj => absurd hj (Nat.not_lt_zero _)⟩
  | succ i ih =>
    obtain ⟨f1, f2, f3, f4, f5, f6⟩ := ih
    have hlt : T.heap.size < (mna_T T cA cB N K i).heap.size := by omega
    have hc : ((mna_T T cA cB N K i).pushCell (arrV cB K (fun _ => .int 0))).heap[T.heap.size]? = some (arrV cA N (mna_f T.heap.size i)) := (State.heap_pushCell_of_lt _ _ hlt).trans f2
    refine ⟨?_, State.heap_setCell_self hc, ?_, ?_, fun q hq => ?_, fun j hj => ?_⟩
    · simp [mna_T, State.setCell, f1]
      omega
    · simp [mna_T, f3]
    · simp [mna_T, f4, arrV_size, Nat.succ_mul]
      omega
    · exact (State.heap_setCell_other (Nat.ne_of_gt hq)).trans ((State.heap_pushCell_of_lt _ _ (show q < (mna_T T cA cB N K i).heap.size by omega)).trans (f5 q hq))
    · refine (State.heap_setCell_other (show T.heap.size ≠ T.heap.size + 1 + j by omega)).trans ?_
      by_cases e : j = i
      · rw [e, ← f1]
        exact State.heap_pushCell_size _ _
      · exact (State.heap_pushCell_of_lt _ _ (show T.heap.size + 1 + j < (mna_T T cA cB N K i).heap.size by omega)).trans (f6 j (by omega))
theorem mna_top (T : State) (f : JFrame) (cA cB : ClassId) (N K : Nat) : ∀ i, mna_T (T.setTop f) cA cB N K i = (mna_T T cA cB N K i).setTop f := by
  intro i
  induction i with
  | zero => rfl
  | succ i ih => simp only [mna_T, ih, State.heap_setTop, State.pushCell_setTop, State.setCell_setTop]
section GRW
variable {E : CtlPost} {e : Env} {d : Bool} {acts : List Action} {s : State}
theorem mna_new {cA comp : ClassId} {k : Class} {type : FieldType} {n : Nat} {v : Value} (hk : s.vm.classes[cA]? = some k) (hkind : k.kind = .array comp type) (hl : ¬ n > e.platform.arrayLengthLimit) (hh : ¬ n * componentBytes type > e.platform.maxHeapBytes) (hf : fits type v = true) (hv : v.isDefault = true) {Q : Addr → Pre} (h1 : s.heap.size < e.platform.maxCells) (h2 : s.slotsUsed + n ≤ e.platform.maxSlots) (hq : Q s.heap.size d acts (s.pushCell (arrV cA n (fun _ => v)))) : wp (Jvm.newArray cA n v) Q E e d acts s := by
  have a1 : ∀ i w, (Array.replicate n v)[i]? = some w → s.fitsSlot cA .none i w = true := by
    intro i w hw
    rw [Array.getElem?_replicate] at hw
    split at hw
    · cases hw
      simp [State.fitsSlot, State.slotType?, hk, hkind, hf]
    · cases hw
  have a2 : allocActs (Array.replicate n v) s.heap.size acts = acts := by
    have : ((Array.replicate n v).all (·.isDefault)) = true := by
      rw [Array.all_replicate]
      split <;> simp [hv]
    unfold allocActs
    rw [if_pos this]
  rw [← arrV_new] at hq
  simp only [Jvm.newArray, Jvm.arrayFits, wp_bind', W.ask, W.ite, hl, if_false, wp_pure', W.theClass, hk, hkind, hh, W.alloc, W.stop, Option.some.injEq, exists_eq_left', Array.size_replicate, a2]
  rw [if_neg (by omega)]
  exact ⟨h1, h2, a1, hq⟩
theorem mna_row {cB cm : ClassId} {k : Class} {m : Int32} (hk : s.vm.classes[cB]? = some k) (hkind : k.kind = .array cm .int) (hm : ¬ m < 0) (hl : ¬ m.toNatClampNeg > e.platform.arrayLengthLimit) (hh : ¬ m.toNatClampNeg * componentBytes .int > e.platform.maxHeapBytes) (h1 : s.heap.size < e.platform.maxCells) (h2 : s.slotsUsed + m.toNatClampNeg ≤ e.platform.maxSlots) {Q : Addr → Pre} (hq : Q s.heap.size d acts (s.pushCell (arrV cB m.toNatClampNeg (fun _ => .int 0)))) : wp (multianewarray.make cB [m]) Q E e d acts s := by
  rw [multianewarray.make]
  simp only [wp_bind', W.ite, hm, if_false, wp_pure', W.theClass, hk, hkind, Option.some.injEq, exists_eq_left']
  exact mna_new (v := .int 0) hk hkind hl hh rfl rfl h1 h2 hq
theorem mna_loop {cA cB : ClassId} {N K : Nat} (f : Nat → PUnit → Sem (ForInStep PUnit)) (hf : ∀ (i : Nat) (d' : Bool) (acts' : List Action) (R : ForInStep PUnit → Pre), i < N → (∀ d'' acts'', R (ForInStep.yield PUnit.unit) d'' acts'' (mna_T s cA cB N K (i + 1))) → wp (f i PUnit.unit) R E e d' acts' (mna_T s cA cB N K i)) : ∀ (x i : Nat) (d' : Bool) (acts' : List Action) (R : PUnit → Pre), x + i = N → (∀ d'' acts'', R PUnit.unit d'' acts'' (mna_T s cA cB N K N)) → wp (forIn (List.range' i x 1) PUnit.unit f) R E e d' acts' (mna_T s cA cB N K i) := by
  intro x
  induction x with
  | zero =>
    intro i d' acts' R hi hR
    obtain rfl : i = N := by omega
    simp only [List.range'_zero, List.forIn_nil, wp_pure']
    exact hR _ _
  | succ x ih =>
    intro i d' acts' R hi hR
    simp only [List.range'_succ, List.forIn_cons, wp_bind']
    refine hf i d' acts' _ (by omega) (fun d'' acts'' => ?_)
    exact ih (i + 1) d'' acts'' R (by omega) hR
theorem mna_make {cA cB cm : ClassId} {kA kB : Class} {n m : Int32} (hA : s.vm.classes[cA]? = some kA) (hAk : kA.kind = .array cB (.array .int)) (hB : s.vm.classes[cB]? = some kB) (hBk : kB.kind = .array cm .int) (hn : ¬ n < 0) (hm : ¬ m < 0) (hl1 : ¬ n.toNatClampNeg > e.platform.arrayLengthLimit) (hh1 : ¬ n.toNatClampNeg * componentBytes (.array .int) > e.platform.maxHeapBytes) (hl2 : ¬ m.toNatClampNeg > e.platform.arrayLengthLimit) (hh2 : ¬ m.toNatClampNeg * componentBytes .int > e.platform.maxHeapBytes) (hc : s.heap.size + 1 + n.toNatClampNeg ≤ e.platform.maxCells) (hs : s.slotsUsed + n.toNatClampNeg + n.toNatClampNeg * m.toNatClampNeg ≤ e.platform.maxSlots) {Q : Addr → Pre} (hq : ∀ d' acts', Q s.heap.size d' acts' (mna_T s cA cB n.toNatClampNeg m.toNatClampNeg n.toNatClampNeg)) : wp (multianewarray.make cA [n, m]) Q E e d acts s := by
  have hfd : ([m].find? (· < 0)) = none := by simp [hm]
  generalize hN : n.toNatClampNeg = N at *
  generalize hK : m.toNatClampNeg = K at *
  rw [multianewarray.make]
  simp only [wp_bind', W.ite, hn, if_false, wp_pure', W.theClass, hA, hAk, Option.some.injEq, exists_eq_left', hN]
  refine mna_new (v := .null) hA hAk hl1 hh1 rfl rfl (by omega) (by have := Nat.zero_le (N * K); omega) ?_
  simp only [hfd]
  rw [ite_self, wp_bind', Std.Legacy.Range.forIn_eq_forIn_range']
  have hsz : ([:N] : Std.Legacy.Range).size = N := by simp [Std.Legacy.Range.size]
  rw [hsz, ← mna_f0 s.heap.size]
  refine mna_loop (s := s) (cA := cA) (cB := cB) (N := N) (K := K) _ (fun i d' acts' R hi hR => ?_) N 0 d acts _ (by omega) (fun d'' acts'' => ?_)
  · obtain ⟨f1, f2, f3, f4, -, -⟩ := mna_facts s cA cB N K i
    have hmul : i * K + K ≤ N * K := by
      have := Nat.mul_le_mul_right K (show i + 1 ≤ N by omega)
      rw [Nat.succ_mul] at this
      exact this
    have hlt : s.heap.size < (mna_T s cA cB N K i).heap.size := by omega
    simp only [wp_bind']
    subst hK
    refine mna_row (by rw [f3]; exact hB) hBk hm hl2 hh2 (by rw [f1]; omega) (by rw [f4]; omega) ?_
    simp only [wp_bind', W.writeLoc, wp_pure']
    refine ⟨arrV cA N (mna_f s.heap.size i), (State.heap_pushCell_of_lt _ _ hlt).trans f2, (fun z => by cases z), by rw [arrV_size]; omega, ?_, ?_⟩
    · simp [State.fitsSlot, State.slotType?, arrV, f3, hA, hAk, fits]
    · rw [arrV_store, f1, mna_fs]
      exact hR _ _
  · simp only [wp_pure']
    exact hq _ _
end GRW

theorem mna_rows (b k : Nat) (f : Nat → Option mm_C) : ∀ (n x : Nat), mm_rows b k n f x = if b ≤ x ∧ x < b + n then some (5, List.replicate k (.int 0)) else f x := by
  intro n
  induction n with
  | zero => intro x; rw [if_neg (by omega)]; rfl
  | succ n ih =>
    intro x
    unfold mm_rows
    by_cases e : x = b + n
    · rw [if_pos e, if_pos (by omega)]
    · rw [if_neg e, ih]
      by_cases e2 : b ≤ x ∧ x < b + n
      · rw [if_pos e2, if_pos (by omega)]
      · rw [if_neg e2, if_neg (by omega)]
section MNA
variable {p : Program} {l : Launch} {e : Env} {R : Room} {s : State} {m : MethodId} {args : Array Value} {below : List Frame} {meth : Method} {c : Code} {Q : State → Prop} {D : va_G} {B : Nat × Nat} {M : mm_T}
variable {pc cells slots : Nat} {ls : mm_L} {st r : List Value} {h : mm_H}
theorem mna_stand {T : State} {locs : List Loc} {cA cB : ClassId} {N K : Nat} (X : Stand p l e R s m args below meth c T locs cells slots) : ∀ i, Stand p l e R s m args below meth c (mna_T T cA cB N K i) (locs ++ (List.range i).map (fun j => (⟨T.heap.size, j⟩ : Loc))) (cells + (1 + i)) (slots + (N + i * K)) := by
  intro i
  induction i with
  | zero =>
    have h := X.pushed (arrV cA N (mna_f T.heap.size 0))
    rw [arrV_size] at h
    have e1 : locs ++ (List.range 0).map (fun j => (⟨T.heap.size, j⟩ : Loc)) = locs := by simp
    have e2 : slots + (N + 0 * K) = slots + N := by rw [Nat.zero_mul]; rfl
    rw [e1, e2]
    exact h
  | succ i ih =>
    obtain ⟨f1, f2, -⟩ := mna_facts T cA cB N K i
    have hlt : T.heap.size < (mna_T T cA cB N K i).heap.size := by omega
    have h := (ih.pushed (arrV cB K (fun _ => .int 0))).stored ((State.heap_pushCell_of_lt _ _ hlt).trans f2) i (.ref (T.heap.size + 1 + i))
    rw [arrV_store, mna_fs, arrV_size] at h
    have e1 : locs ++ (List.range (i + 1)).map (fun j => (⟨T.heap.size, j⟩ : Loc)) = locs ++ (List.range i).map (fun j => (⟨T.heap.size, j⟩ : Loc)) ++ [⟨T.heap.size, i⟩] := by simp [List.range_succ, List.append_assoc]
    have e2 : slots + (N + (i + 1) * K) = slots + (N + i * K) + K := by rw [Nat.succ_mul]; omega
    rw [e1, e2]
    exact h
theorem mg_mna (C : mm_Ctx p s m args meth c D B M) {n k : Int32} {i : Nat} (hd : decode M.2.2.1 pc = .ok (.multianewarray i 2, 4)) (hk : mm_cls M.1 i = some 9) (h1 : ¬ n < 0) (h2 : ¬ k < 0) (h3 : ¬ 10000 < n.toNatClampNeg) (h4 : ¬ 10000 < k.toNatClampNeg) (hcl : cells + (1 + n.toNatClampNeg) ≤ R.cells) (hsl : slots + (n.toNatClampNeg + n.toNatClampNeg * k.toNatClampNeg) ≤ R.slots) (kk : mm_G p l e R s m args below meth c Q D B M (pc + 4) ls (.ref h.1 :: r) (mm_grid h n.toNatClampNeg k.toNatClampNeg) (cells + (1 + n.toNatClampNeg)) (slots + (n.toNatClampNeg + n.toNatClampNeg * k.toNatClampNeg))) : mm_G p l e R s m args below meth c Q D B M pc ls (.int k :: .int n :: r) h cells slots := fun H locs lsA hP hS hl => by
  obtain ⟨hx, hb, hml, hown, hts, hWF, hnm, hB1, hB2⟩ := C
  have ham := hP.am
  have hclink := hts _ ((mm_cls_spec hk).2 rfl)
  obtain ⟨⟨kA, hkA, hkindA⟩, kB, cm, hkB, hkindB⟩ := hWF.2.2.2.1
  have hnm9 := (hWF.1.2 4 _ rfl).2
  intro T hT X
  subst hT
  have hpl : e.platform.magicAccessors = ({} : Platform).magicAccessors := by rw [X.admits.platform]
  obtain ⟨c0, hf0, hcl0⟩ := Cond.classLink_spec hown hclink e.platform hpl
  have hc0 : c0 = D.1 9 := Option.some.inj (hf0.symm.trans hnm9)
  subst hc0
  obtain ⟨hg1, hw1, hr1⟩ := State.classEntry (e := e) X.warmed hcl0
  generalize T.vm.noted m.cls i (.cls (D.1 9)) = vm1 at hg1 hw1 hr1
  have hal : s.vm.Alike vm1 := hw1.alike
  obtain ⟨kA1, hkA1, heA⟩ := hal.2.2 _ _ hkA
  obtain ⟨kB1, hkB1, heB⟩ := hal.2.2 _ _ hkB
  have hkindA1 : kA1.kind = .array (D.1 5) (.array .int) := by rw [heA]; exact hkindA
  have hkindB1 : kB1.kind = .array cm .int := by rw [heB]; exact hkindB
  obtain ⟨hra, hrb⟩ := X.roomAbove hcl hsl
  have X1 := X.noted hw1
  have XF := mna_stand (cA := D.1 9) (cB := D.1 5) (N := n.toNatClampNeg) (K := k.toNatClampNeg) X1 n.toNatClampNeg
  obtain ⟨f1, f2, f3, f4, f5, f6⟩ := mna_facts (T.setVm vm1) (D.1 9) (D.1 5) n.toNatClampNeg k.toNatClampNeg n.toNatClampNeg
  have hsz : (T.setVm vm1).heap.size = T.heap.size := rfl
  rw [hsz] at f1 f2 f5 f6
  obtain ⟨p1, p2, p3⟩ := hP
  have hP2 : mm_HP D B (mm_grid h n.toNatClampNeg k.toNatClampNeg) (mna_T (T.setVm vm1) (D.1 9) (D.1 5) n.toNatClampNeg k.toNatClampNeg n.toNatClampNeg).heap := by
    refine ⟨by show 1 ≤ h.1 + 1 + n.toNatClampNeg; omega, by show _ = B.2 + (h.1 + 1 + n.toNatClampNeg); rw [f1]; omega, fun a cc hcc => ?_⟩
    show 0 < a ∧ a < h.1 + 1 + n.toNatClampNeg ∧ _
    have hcc2 : (if a = h.1 then some (9, (List.range n.toNatClampNeg).map (fun i => Value.ref (h.1 + 1 + i))) else mm_rows (h.1 + 1) k.toNatClampNeg n.toNatClampNeg h.2.2 a) = some cc := hcc
    by_cases ea : a = h.1
    · rw [if_pos ea] at hcc2
      cases hcc2
      subst ea
      refine ⟨by omega, by omega, mm_ofA (by decide) ?_⟩
      rw [ham, f2, List.length_map, List.length_range]
      refine congrArg some (mm_arrV (fun j hj => ?_))
      rw [mm_vV (v := .ref (h.1 + 1 + j)) (by simp [hj])]
      show (if j < n.toNatClampNeg then Value.ref (T.heap.size + 1 + j) else .null) = .ref (mm_am B (h.1 + 1 + j))
      rw [if_pos hj]
      have e8 : mm_am B (h.1 + 1 + j) = T.heap.size + 1 + j := by
        unfold mm_am
        rw [if_neg (by omega)]
        omega
      rw [e8]
    · rw [if_neg ea, mna_rows] at hcc2
      by_cases er : h.1 + 1 ≤ a ∧ a < h.1 + 1 + n.toNatClampNeg
      · rw [if_pos er] at hcc2
        cases hcc2
        refine ⟨by omega, by omega, mm_ofA (by decide) ?_⟩
        have e9 : mm_am B a = T.heap.size + 1 + (a - (h.1 + 1)) := by
          unfold mm_am
          rw [if_neg (by omega)]
          omega
        rw [e9, f6 (a - (h.1 + 1)) (by omega), List.length_replicate]
        refine congrArg some (mm_arrV (fun j hj => ?_))
        rw [mm_vV (v := .int 0) (by simp [hj])]
        rfl
      · rw [if_neg er] at hcc2
        obtain ⟨g1, g2, g3⟩ := p3 a cc hcc2
        refine ⟨g1, by omega, g3.kept (f5 _ ?_)⟩
        unfold mm_am
        rw [if_neg (by omega)]
        omega
  have hS2 : va_S (fun q => B.2 ≤ q) s.heap (mna_T (T.setVm vm1) (D.1 9) (D.1 5) n.toNatClampNeg k.toNatClampNeg n.toNatClampNeg).heap (locs ++ (List.range n.toNatClampNeg).map (fun j => (⟨T.heap.size, j⟩ : Loc))) := by
    refine ⟨Nat.le_trans hS.1 (by rw [f1]; omega), fun q k1 k2 => by rw [f5 q (Nat.lt_of_lt_of_le k1 hS.1)]; exact hS.2.1 q k1 k2, fun q hq => ?_⟩
    rcases List.mem_append.mp hq with hq | hq
    · exact hS.2.2 q hq
    · obtain ⟨j, -, rfl⟩ := List.mem_map.mp hq
      show B.2 ≤ T.heap.size
      omega
  obtain ⟨t, a1, b1⟩ := kk _ _ lsA hP2 hS2 hl _ rfl XF
  refine ⟨t, ?_, b1⟩
  have eR : (Value.ref h.1 :: r).map (mm_sh B) = .ref T.heap.size :: r.map (mm_sh B) := by
    rw [List.map_cons]
    exact congrArg (· :: r.map (mm_sh B)) (congrArg Value.ref ham)
  rw [eR] at a1
  have hl1 : ¬ n.toNatClampNeg > e.platform.arrayLengthLimit := by rw [Launch.admits_arrayLengthLimit X.admits]; omega
  have hh1 : ¬ n.toNatClampNeg * componentBytes (.array .int) > e.platform.maxHeapBytes := by
    rw [Launch.admits_maxHeapBytes X.admits]; show ¬ n.toNatClampNeg * 4 > 536870912; omega
  have hl2 : ¬ k.toNatClampNeg > e.platform.arrayLengthLimit := by rw [Launch.admits_arrayLengthLimit X.admits]; omega
  have hh2 : ¬ k.toNatClampNeg * componentBytes .int > e.platform.maxHeapBytes := by
    rw [Launch.admits_maxHeapBytes X.admits]; show ¬ k.toNatClampNeg * 4 > 536870912; omega
  have hd2 : decode c.code pc = .ok (.multianewarray i 2, 4) := by rw [hb]; exact hd
  show Steps p.tables e below (T.setTop (F0 m pc lsA (.int k :: .int n :: r.map (mm_sh B)))) t
  jvm_step X.here [hx, hd2]
  simp only [multianewarray.sem, wp_bind', W.resolveClassAt_links (State.method?_setTop (F0 m pc lsA (.int k :: .int n :: r.map (mm_sh B))) X.here.top) hg1]
  rw [W.popN, if_neg (by decide)]
  refine ⟨F0 m pc lsA (.int k :: .int n :: r.map (mm_sh B)), State.topJava?_setTop' (s := T.setVm vm1) _ X.here.top, [.int n, .int k], r.map (mm_sh B), rfl, rfl, ?_⟩
  simp only [List.mapM_cons, List.mapM_nil, wp_bind', wp_pure']
  refine mna_make (kA := kA1) (kB := kB1) (cB := D.1 5) (cm := cm) hkA1 hkindA1 hkB1 hkindB1 h1 h2 hl1 hh1 hl2 hh2 (by show T.heap.size + 1 + _ ≤ _; omega) (by show T.slotsUsed + _ + _ ≤ _; omega) (fun d' acts' => ?_)
  have eS : ((T.setTop (F0 m pc lsA (.int k :: .int n :: r.map (mm_sh B)))).setVm vm1).setTop { F0 m pc lsA (.int k :: .int n :: r.map (mm_sh B)) with stack := r.map (mm_sh B) } = (T.setVm vm1).setTop { F0 m pc lsA (.int k :: .int n :: r.map (mm_sh B)) with stack := r.map (mm_sh B) } := by
    show ((T.setVm vm1).setTop _).setTop _ = _
    rw [State.setTop_setTop]
  rw [eS, mna_top]
  simp only [wp_bind', W.mark, W.pushRef, State.topJava?_setTop' _ XF.here.top, Option.some.injEq, exists_eq_left', State.setTop_setTop, State.heap_setTop]
  intro acts
  simp [jvm, XF.here.top]
  exact a1
end MNA
