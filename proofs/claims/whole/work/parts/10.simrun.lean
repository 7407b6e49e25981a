/-! A RUN OF THE MINI-MACHINE IS A RUN OF THE MACHINE -/
theorem mm_ld_h {ty pc i : Nat} {ls : mm_L} {st : List Value} {h : mm_H} {q : Nat × mm_L × List Value × mm_H} (hx : mm_ld ty pc ls st h i = some (.inl q)) : q.2.2.2 = h := by
  unfold mm_ld at hx
  split at hx <;> cases hx <;> rfl
theorem mm_sto_h {ty nL pc i : Nat} {ls : mm_L} {st : List Value} {h : mm_H} {q : Nat × mm_L × List Value × mm_H} (hx : mm_sto ty nL pc ls st h i = some (.inl q)) : q.2.2.2 = h := by
  unfold mm_sto at hx
  split at hx <;> first | (split at hx <;> cases hx <;> rfl) | cases hx
theorem mm_go_h {pc : Nat} {off : Int} {ls : mm_L} {st : List Value} {h : mm_H} {q : Nat × mm_L × List Value × mm_H} (hx : mm_go pc off ls st h = some (.inl q)) : q.2.2.2 = h := by
  obtain ⟨-, rfl⟩ := mm_go_spec hx
  rfl
theorem mm_le_of_eq {h h' : mm_H} (e : h' = h) : h.1 ≤ h'.1 ∧ h.2.1 ≤ h'.2.1 := by rw [e]; exact ⟨Nat.le_refl _, Nat.le_refl _⟩
theorem mm_call_inl {t : mm_T} {n : Nat} {st : List Value} {q : Nat × mm_L × List Value × mm_H} (hx : mm_call t n st = some (.inl q)) : False := by
  unfold mm_call at hx
  split at hx <;> cases hx
set_option maxHeartbeats 4000000 in
theorem mm_x_mono {sc : Option (List Int32)} {F pc : Nat} {M : mm_T} {ins : Instr} {ls : mm_L} {st : List Value} {h : mm_H} {q : Nat × mm_L × List Value × mm_H} (hx : mm_x sc F M ins pc ls st h = some (.inl q)) : h.1 ≤ q.2.2.2.1 ∧ h.2.1 ≤ q.2.2.2.2.1 := by
  cases ins <;> simp only [mm_x] at hx <;> first
    | exact mm_le_of_eq (mm_ld_h hx)
    | exact mm_le_of_eq (mm_sto_h hx)
    | exact mm_le_of_eq (mm_go_h hx)
    | (cases hx; exact ⟨Nat.le_refl _, Nat.le_refl _⟩)
    | ((repeat' split at hx) <;> first
        | exact mm_le_of_eq (mm_go_h hx)
        | exact (mm_call_inl hx).elim
        | (cases hx; exact ⟨Nat.le_refl _, Nat.le_refl _⟩)
        | (cases hx; exact ⟨Nat.le_succ _, Nat.le_add_right _ _⟩)
        | (cases hx; exact ⟨by show h.1 ≤ h.1 + 1 + _; omega, Nat.le_add_right _ _⟩)
        | cases hx)
theorem mm_run_mono : ∀ {n : Nat} {sc : Option (List Int32)} {F pc : Nat} {M : mm_T} {ls : mm_L} {st : List Value} {h : mm_H} {r : Option Value} {h' : mm_H}, mm_run n sc F M pc ls st h = some (r, h') → h.1 ≤ h'.1 ∧ h.2.1 ≤ h'.2.1 := by
  intro n
  induction n with
  | zero => intro sc F pc M ls st h r h' hx; cases hx
  | succ n ih =>
    intro sc F pc M ls st h r h' hx
    unfold mm_run at hx
    split at hx
    · cases hx
    · split at hx
      · cases hx
      · rename_i hq
        have h1 := mm_x_mono hq
        have h2 := ih hx
        exact ⟨Nat.le_trans h1.1 h2.1, Nat.le_trans h1.2 h2.2⟩
      · split at hx
        · cases hx
        · split at hx
          · cases hx
          · rename_i hc
            have h1 := ih hc
            have h2 := ih hx
            exact ⟨Nat.le_trans h1.1 h2.1, Nat.le_trans h1.2 h2.2⟩
      · cases hx
        exact ⟨Nat.le_refl _, Nat.le_refl _⟩
/-- a return instruction, and what it returns -/
def mm_Ret (M : mm_T) (pc : Nat) (r : Option Value) : Prop :=
  (∃ v, r = some (.int v) ∧ decode M.2.2.1 pc = .ok (.ireturn, 1) ∧ (M.2.2.2.2.1 = some .int ∨ (M.2.2.2.2.1 = some .boolean ∧ (v = 0 ∨ v = 1)))) ∨ (∃ v, r = some (.long v) ∧ decode M.2.2.1 pc = .ok (.lreturn, 1) ∧ M.2.2.2.2.1 = some .long) ∨ (r = none ∧ decode M.2.2.1 pc = .ok (.return_, 1) ∧ M.2.2.2.2.1 = none)
theorem mm_call_inr {t : mm_T} {n : Nat} {st : List Value} {r : Option Value} (hx : mm_call t n st = some (.inr (.inr r))) : False := by
  unfold mm_call at hx
  split at hx <;> cases hx
theorem mm_ld_r {ty pc i : Nat} {ls : mm_L} {st : List Value} {h : mm_H} {q} (hx : mm_ld ty pc ls st h i = some (.inr q)) : False := by
  unfold mm_ld at hx
  split at hx <;> cases hx
theorem mm_sto_r {ty nL pc i : Nat} {ls : mm_L} {st : List Value} {h : mm_H} {q} (hx : mm_sto ty nL pc ls st h i = some (.inr q)) : False := by
  unfold mm_sto at hx
  split at hx <;> first | (split at hx <;> cases hx) | cases hx
theorem mm_go_r {pc : Nat} {off : Int} {ls : mm_L} {st : List Value} {h : mm_H} {q} (hx : mm_go pc off ls st h = some (.inr q)) : False := by
  unfold mm_go at hx
  split at hx <;> cases hx
set_option maxHeartbeats 4000000 in
theorem mm_x_ret {sc : Option (List Int32)} {F pc : Nat} {M : mm_T} {ins : Instr} {ls : mm_L} {st : List Value} {h : mm_H} {r : Option Value} (hat : mm_at M pc = some ins) (hx : mm_x sc F M ins pc ls st h = some (.inr (.inr r))) : mm_Ret M pc r ∧ st = r.toList := by
  obtain ⟨len, hd, hlen⟩ := mm_at_dec hat
  cases ins with
  | ireturn =>
    obtain rfl : 1 = len := hlen.resolve_left (by simp [mm_ln])
    simp only [mm_x] at hx
    split at hx
    · split at hx
      · rename_i hc
        cases hx
        exact ⟨Or.inl ⟨_, rfl, hd, hc⟩, rfl⟩
      · cases hx
    · cases hx
  | lreturn =>
    obtain rfl : 1 = len := hlen.resolve_left (by simp [mm_ln])
    simp only [mm_x] at hx
    split at hx
    · split at hx
      · rename_i hc
        cases hx
        exact ⟨Or.inr (Or.inl ⟨_, rfl, hd, hc⟩), rfl⟩
      · cases hx
    · cases hx
  | return_ =>
    obtain rfl : 1 = len := hlen.resolve_left (by simp [mm_ln])
    simp only [mm_x] at hx
    split at hx
    · split at hx
      · rename_i hc
        cases hx
        exact ⟨Or.inr (Or.inr ⟨rfl, hd, hc⟩), rfl⟩
      · cases hx
    · cases hx
  | _ =>
    simp only [mm_x] at hx
    first
      | exact (mm_ld_r hx).elim
      | exact (mm_sto_r hx).elim
      | exact (mm_go_r hx).elim
      | (cases hx; done)
      | ((repeat' split at hx) <;> first
        | exact (mm_go_r hx).elim
        | exact (mm_call_inr hx).elim
        | cases hx)
/-- what a call of the mini-machine is -/
def mm_Call (M : mm_T) (ins : Instr) (st : List Value) (h : mm_H) (t : mm_T) (as rest : List Value) : Prop :=
  st = as.reverse ++ rest ∧ (rest.map fun v => v.category).sum ≤ 8 ∧ (as.map fun v => v.category).sum ≤ t.2.2.2.1 ∧
  ∃ i k, mm_mth M.1 i = some (k, t) ∧ ((k = 0 ∧ ins = .invokestatic i ∧ as.length = t.2.2.2.2.2) ∨ ((k = 1 ∧ ins = .invokevirtual i ∨ (k = 2 ∨ k = 3) ∧ ins = .invokespecial i) ∧ ∃ a As fs, as = .ref a :: As ∧ As.length = t.2.2.2.2.2 ∧ h.2.2 a = some (t.1, fs)))
theorem mm_call_spec {t u : mm_T} {n : Nat} {st as rest : List Value} (hx : mm_call t n st = some (.inr (.inl (u, as, rest)))) : u = t ∧ n ≤ st.length ∧ as = (st.take n).reverse ∧ st = as.reverse ++ rest ∧ (rest.map fun v => v.category).sum ≤ 8 ∧ (as.map fun v => v.category).sum ≤ t.2.2.2.1 := by
  unfold mm_call at hx
  split at hx
  · rename_i hc
    cases hx
    refine ⟨rfl, hc.1, rfl, by rw [List.reverse_reverse, List.take_append_drop], hc.2.1, ?_⟩
    rw [List.map_reverse, List.sum_reverse]
    exact hc.2.2
  · cases hx
theorem mm_this_spec {h : mm_H} {n k : Nat} {st : List Value} (hx : mm_this h n k st = true) : ∃ a fs, st[n]? = some (.ref a) ∧ h.2.2 a = some (k, fs) := by
  unfold mm_this at hx
  split at hx
  · rename_i a ha
    split at hx
    · rename_i c hc
      obtain ⟨ci, fs⟩ := c
      have e : ci = k := by simpa using hx
      subst e
      exact ⟨a, fs, ha, hc⟩
    · cases hx
  · cases hx
theorem mm_take_this {st : List Value} {n : Nat} {v : Value} (h : st[n]? = some v) : (st.take (n + 1)).reverse = v :: (st.take n).reverse := by
  rw [List.take_add_one, h]
  simp
set_option maxHeartbeats 4000000 in
theorem mm_x_call {sc : Option (List Int32)} {F pc : Nat} {M : mm_T} {ins : Instr} {ls : mm_L} {st : List Value} {h : mm_H} {t : mm_T} {as rest : List Value} (hx : mm_x sc F M ins pc ls st h = some (.inr (.inl (t, as, rest)))) : mm_Call M ins st h t as rest := by
  cases ins with
  | invokestatic i =>
    simp only [mm_x] at hx
    split at hx
    · split at hx
      · split at hx <;> cases hx
      · split at hx <;> cases hx
      · cases hx
    · split at hx
      · rename_i u hm
        obtain ⟨rfl, h1, h2, h3, h4, h5⟩ := mm_call_spec hx
        exact ⟨h3, h4, h5, i, 0, hm, Or.inl ⟨rfl, rfl, by rw [h2, List.length_reverse, List.length_take]; omega⟩⟩
      · cases hx
  | invokevirtual i =>
    simp only [mm_x] at hx
    split at hx
    · rename_i u hm
      split at hx
      · rename_i ht
        obtain ⟨rfl, h1, h2, h3, h4, h5⟩ := mm_call_spec hx
        obtain ⟨a, fs, ha, hc⟩ := mm_this_spec ht
        exact ⟨h3, h4, h5, i, 1, hm, Or.inr ⟨Or.inl ⟨rfl, rfl⟩, a, _, fs, h2.trans (mm_take_this ha), by rw [List.length_reverse, List.length_take]; omega, hc⟩⟩
      · cases hx
    · cases hx
  | invokespecial i =>
    simp only [mm_x] at hx
    split at hx
    · split at hx
      · split at hx <;> cases hx
      · cases hx
    · split at hx
      · rename_i k u hm
        split at hx
        · rename_i ht
          obtain ⟨rfl, h1, h2, h3, h4, h5⟩ := mm_call_spec hx
          obtain ⟨a, fs, ha, hc⟩ := mm_this_spec ht.2
          exact ⟨h3, h4, h5, i, k, hm, Or.inr ⟨Or.inr ⟨ht.1, rfl⟩, a, _, fs, h2.trans (mm_take_this ha), by rw [List.length_reverse, List.length_take]; omega, hc⟩⟩
        · cases hx
      · cases hx
  | _ =>
    simp only [mm_x] at hx
    first
      | exact (mm_ld_r hx).elim
      | exact (mm_sto_r hx).elim
      | exact (mm_go_r hx).elim
      | (cases hx; done)
      | ((repeat' split at hx) <;> first
        | exact (mm_go_r hx).elim
        | cases hx)
theorem mm_mp_args (B : Nat × Nat) : ∀ (as : List Value) (i : Nat), mm_mp B (lv_args i as) = lv_args i (as.map (mm_sh B))
  | [], _ => rfl
  | v :: vs, i => by
    show (i, mm_sh B v) :: mm_mp B (lv_args (if v.category = 2 then i + 2 else i + 1) vs) = (i, mm_sh B v) :: lv_args (if (mm_sh B v).category = 2 then i + 2 else i + 1) (vs.map (mm_sh B))
    rw [mm_mp_args B vs, mm_sh_cat]
theorem mm_sl_len (B : Nat × Nat) : ∀ (as : List Value), (lg_sl (as.map (mm_sh B))).length = (as.map fun v => v.category).sum
  | [] => rfl
  | v :: vs => by
    have ih := mm_sl_len B vs
    unfold lg_sl at ih ⊢
    rw [List.map_cons, List.flatMap_cons, List.length_append, ih, List.map_cons, List.sum_cons, mm_sh_cat]
    congr 1
    rcases lv_cat v with h | h <;> simp [h]
def mm_Pc (D : va_G) (B : Nat × Nat) (as : List Value) (h : mm_H) : Array Value → State → Prop := fun v U => v = (as.map (mm_sh B)).toArray ∧ mm_HP D B h U.heap ∧ mm_WF D U
def mm_Qc (D : va_G) (B : Nat × Nat) (r : Option Value) (h : mm_H) : Array Value → State → Outcome → State → Prop := fun _ st o t => o = .returned (r.map (mm_sh B)) ∧ mm_HP D B h t.heap ∧ va_F (fun q => B.2 ≤ q) st t
def mm_ws (t : mm_T) : List Cond := .code t.2.1 t.2.2.1 t.2.2.2.1 t.2.2.2.2.1 :: mm_Ws
def mm_rm (F k n : Nat) : Room := { frames := F, cells := k, slots := n, locals := 40 * F }
section MG
variable {p : Program} {l : Launch} {e : Env} {R : Room} {s : State} {m : MethodId} {args : Array Value} {below : List Frame} {meth : Method} {c : Code} {Q : State → Prop} {D : va_G} {B : Nat × Nat} {M : mm_T}
variable {pc cells slots : Nat} {ls : mm_L} {st r : List Value} {h : mm_H}
theorem mm_callK {H : Heap} {locs : List Loc} {mc ms : Nat} {lsA : Array Slot} {st0 rest' : List Value} {a : Array Value} {rv : Option Value} {h' : mm_H} (hr : va_Run p l e R s m args below meth c H locs cells slots mc ms (F0 m pc lsA st0) rest' (mm_Qc D B rv h' a) (fun q => B.2 ≤ q)) (hS : va_S (fun q => B.2 ≤ q) s.heap H locs)
    (kk : ∀ (H1 : Heap) (locs1 : List Loc), mm_HP D B h' H1 → va_S (fun q => B.2 ≤ q) s.heap H1 locs1 → W p l e R s m args below meth c H1 locs1 (cells + mc) (slots + ms) Q (F0 m (pc + 3) lsA ((rv.map (mm_sh B)).toList ++ rest'))) : W p l e R s m args below meth c H locs cells slots Q (F0 m pc lsA st0) := by
  intro T hT X
  obtain ⟨v, st₀, t, T', L, h0, X', hL, e1, e2, ⟨hv, hP, hz, hk⟩, st⟩ := hr T hT X
  cases hv
  rw [h0] at hz hk
  obtain ⟨t2, a1, b1⟩ := kk T'.heap (locs ++ L) (by rw [e1]; exact hP) ⟨Nat.le_trans hS.1 (by rw [e1]; exact hz), fun q h1 h2 => by rw [e1, hk q (Nat.lt_of_lt_of_le h1 hS.1) h2]; exact hS.2.1 q h1 h2, fun q hq => by
      rcases List.mem_append.mp hq with h | h
      · exact hS.2.2 q h
      · exact hL q h⟩ T' rfl X'
  exact ⟨t2, st t2 a1, b1⟩
end MG
/-- the simulation, for runs of n fuel -/
def mm_Sim (l : Launch) (D : va_G) (B : Nat × Nat) (n : Nat) : Prop :=
  ∀ (p : Program) (e : Env) (R : Room) (s : State) (m : MethodId) (args : Array Value) (below : List Frame) (meth : Method) (c : Code) (Q : State → Prop) (M : mm_T) (sc : Option (List Int32)) (F pc : Nat) (ls : mm_L) (st : List Value) (h h' : mm_H) (r : Option Value) (cells slots : Nat),
    mm_Ctx p s m args meth c D B M → (∀ xs, sc = some xs → va_X B.1 xs.length (fun j => xs.getD j 0) s s.heap) → (F ≤ R.frames ∧ 40 * F ≤ R.locals) → mm_run n sc F M pc ls st h = some (r, h') → (cells + (h'.1 - h.1) ≤ R.cells ∧ slots + (h'.2.1 - h.2.1) ≤ R.slots) →
    (∀ (pcr : Nat) (H' : Heap) (locs' : List Loc) (lsA : Array Slot), mm_Ret M pcr r → mm_HP D B h' H' → va_S (fun q => B.2 ≤ q) s.heap H' locs' → W p l e R s m args below meth c H' locs' (cells + (h'.1 - h.1)) (slots + (h'.2.1 - h.2.1)) Q (F0 m pcr lsA (r.toList.map (mm_sh B)))) → mm_G p l e R s m args below meth c Q D B M pc ls st h cells slots
theorem mm_good {t : mm_T} (hc : Cond.code t.2.1 t.2.2.1 t.2.2.2.1 t.2.2.2.2.1 ∈ mm_Ws) : GoodIn mm_Ws (mm_ws t) := by
  intro w hw
  have hw2 : w ∈ mm_Ws := by
    rcases List.mem_cons.mp hw with rfl | h
    · exact hc
    · exact h
  exact ⟨hw2, good_of_word (List.mem_filter.mp hw2).2⟩
theorem mm_met {l : Launch} {D : va_G} {B : Nat × Nat} {n F : Nat} {t : mm_T} {as : List Value} {h h' : mm_H} {r : Option Value} (hB : B.1 < B.2) (IH : mm_Sim l D B n) (hy : t.2.1.cls = mm_cn t.1) (hpl : plainName t.2.1.cls = true) (has : (as.map fun v => v.category).sum ≤ t.2.2.2.1) (hrun : mm_run n none F t 0 (lv_args 0 as) [] h = some (r, h')) :
    Met l t.2.1 (mm_ws t) (mm_rm F (h'.1 - h.1) (h'.2.1 - h.2.1)) (mm_Pc D B as h) (mm_Qc D B r h') (h'.1 - h.1) (h'.2.1 - h.2.1) (fun q => B.2 ≤ q) := by
  refine Met.ofW (cc := t.2.2.1) (maxL := t.2.2.2.1) (ret := t.2.2.2.2.1) hpl rfl ?_
  intro p e s m args below meth c s₁ B9 hml hv
  obtain ⟨rfl, hP, hWF⟩ := hv
  have hts := atoms_spec (ws := mm_ws t) B9.pre
  have hown : s.vm.findClass (mm_cn t.1) = some m.cls := by rw [← hy]; exact findClass_of_methodNamed B9.named
  have hlocks := B9.notSynchronized
  have hret := B9.returns
  have C : mm_Ctx p s m (as.map (mm_sh B)).toArray meth c D B t := ⟨B9.exec, B9.bytes, hml, hown, fun w hw => hts w (List.mem_cons_of_mem _ hw), hWF, fun hi => (name_of_methodNamed B9.named B9.method).1.trans hi, hB, by have h1 := hP.1; have h2 := hP.2.1; omega⟩
  have hl := lv_entry (as.map (mm_sh B)) (n := t.2.2.2.1) (by rw [mm_sl_len]; exact has)
  rw [← mm_mp_args] at hl
  rw [lg_entry_eq]
  refine IH p e _ s m _ below meth c _ t none F 0 (lv_args 0 as) [] h h' r 0 0 C (fun xs h => by cases h) ⟨Nat.le_refl _, Nat.le_refl _⟩ hrun ⟨by rw [Nat.zero_add]; exact Nat.le_refl _, by rw [Nat.zero_add]; exact Nat.le_refl _⟩ ?_ s.heap [] _ hP va_S.rf hl
  intro pcr H' locs' lsA hR hP' hS'
  rw [Nat.zero_add, Nat.zero_add]
  have hq : ∀ t2 : State, t2.heap = H' → s.WarmedH t2.vm → mm_Qc D B r h' (as.map (mm_sh B)).toArray s (.returned (r.map (mm_sh B))) t2 := fun t2 ht _ => ⟨rfl, by rw [ht]; exact hP', hS'.F ht⟩
  rcases hR with ⟨v, rfl, hd, hty⟩ | ⟨v, rfl, hd, hty⟩ | ⟨rfl, hd, hty⟩
  · rcases hty with hty | ⟨hty, hv⟩
    · exact W.iret B9.exec B9.bytes (hret.trans hty) hq hS'.2.2 hd
    · exact W.zret (ty := .boolean) B9.exec B9.bytes (hret.trans hty) (by rcases hv with rfl | rfl <;> rfl) hq hS'.2.2 hd
  · exact W.lret B9.exec B9.bytes (hret.trans hty) hq hS'.2.2 hd
  · exact W.vret B9.exec B9.bytes (hret.trans hty) hq hS'.2.2 hd
theorem mm_mth_spec {o i k : Nat} {t : mm_T} (h : mm_mth o i = some (k, t)) : ((o, i, k, t) : Nat × Nat × Nat × mm_T) ∈ mm_mthL := by
  obtain ⟨q, hq, hv⟩ := Option.map_eq_some_iff.mp h
  have h1 := List.find?_some hq
  have h2 := List.mem_of_find?_eq_some hq
  simp only [Bool.and_eq_true, beq_iff_eq] at h1
  obtain ⟨a, b, c⟩ := q
  have e1 : a = o := h1.1
  have e2 : b = i := h1.2
  have e3 : c = (k, t) := hv
  subst e1; subst e2; subst e3
  exact h2
theorem mm_blind {D : va_G} {B : Nat × Nat} {as : List Value} {h : mm_H} : FrameBlind (mm_Pc D B as h) := fun a U g mk q => ⟨q.1, q.2.1, mm_WF.same (U := U.calling g mk a) rfl q.2.2⟩
section MG
variable {p : Program} {l : Launch} {e : Env} {R : Room} {s : State} {m : MethodId} {args : Array Value} {below : List Frame} {meth : Method} {c : Code} {Q : State → Prop} {D : va_G} {B : Nat × Nat} {M : mm_T}
variable {pc cells slots : Nat} {ls : mm_L} {st r : List Value} {h : mm_H}
set_option maxHeartbeats 4000000 in
theorem mm_callG {n F : Nat} {t : mm_T} {ins : Instr} {as rest : List Value} {h' : mm_H} {rv : Option Value} (C : mm_Ctx p s m args meth c D B M) (IH : mm_Sim l D B n) (hF : F + 1 ≤ R.frames ∧ 40 * (F + 1) ≤ R.locals) (hat : mm_at M pc = some ins) (hc : mm_Call M ins st h t as rest) (hrun : mm_run n none F t 0 (lv_args 0 as) [] h = some (rv, h')) (hr : cells + (h'.1 - h.1) ≤ R.cells ∧ slots + (h'.2.1 - h.2.1) ≤ R.slots)
    (kk : mm_G p l e R s m args below meth c Q D B M (pc + 3) ls (rv.toList ++ rest) h' (cells + (h'.1 - h.1)) (slots + (h'.2.1 - h.2.1))) : mm_G p l e R s m args below meth c Q D B M pc ls st h cells slots := fun H locs lsA hP hS hl => by
  obtain ⟨len, hd, hlen⟩ := mm_at_dec hat
  obtain ⟨rfl, hsum, has, i, k, hm, hcase⟩ := hc
  have he := mm_mth_spec hm
  have hco := mm_mthL_code _ he
  obtain ⟨o1, o2, o3⟩ := mm_mthL_ok1 _ he
  have p2 := mm_mthL_ok2 _ he
  obtain ⟨w1, w2⟩ := mm_mthL_ok3 _ he
  obtain ⟨hx, hb, hml, hown, hts, hWF, hnm, hB1, hB2⟩ := id C
  have hM := mm_met hB1 IH o1 o2 has hrun
  have hsum' : ((rest.map (mm_sh B)).map fun v => v.category).sum ≤ 8 := by
    rw [List.map_map]
    have e9 : ((fun v : Value => v.category) ∘ mm_sh B) = fun v => v.category := funext fun v => mm_sh_cat B v
    rw [e9]
    exact hsum
  have hroom : (mm_rm F (h'.1 - h.1) (h'.2.1 - h.2.1)).frames + 1 ≤ R.frames ∧ 8 + (t.2.2.2.1 + 11) + (mm_rm F (h'.1 - h.1) (h'.2.1 - h.2.1)).locals ≤ R.locals := ⟨hF.1, by
    have o3' : t.2.2.2.1 ≤ 20 := o3
    show 8 + (t.2.2.2.1 + 11) + 40 * F ≤ R.locals
    omega⟩
  have fin : ∀ a : Array Value, va_Run p l e R s m args below meth c H locs cells slots (h'.1 - h.1) (h'.2.1 - h.2.1) (F0 m pc lsA ((as.reverse ++ rest).map (mm_sh B))) (rest.map (mm_sh B)) (mm_Qc D B rv h' a) (fun q => B.2 ≤ q) → W p l e R s m args below meth c H locs cells slots Q (F0 m pc lsA ((as.reverse ++ rest).map (mm_sh B))) := fun a hrn => by
    refine mm_callK hrn hS (fun H1 locs1 hP1 hS1 => ?_)
    have k9 := kk H1 locs1 lsA hP1 hS1 hl
    rw [List.map_append] at k9
    have e9 : (rv.map (mm_sh B)).toList = rv.toList.map (mm_sh B) := by cases rv <;> rfl
    rw [e9]
    exact k9
  have hPc : ∀ U : State, U.heap = H → s.WarmedH U.vm → mm_Pc D B as h (as.map (mm_sh B)).toArray U := fun U hU hW => ⟨rfl, by rw [hU]; exact hP, hWF.warm hW⟩
  have hmono := mm_run_mono hrun
  have hcellb : cells + (h'.1 - h.1) ≤ R.cells ∧ slots + (h'.2.1 - h.2.1) ≤ R.slots := hr
  rcases hcase with ⟨rfl, rfl, hlen2⟩ | ⟨hk, a, As, fs, rfl, hlen2, hca⟩
  · obtain rfl : 3 = len := hlen.resolve_left (by simp [mm_ln])
    have w2' : Cond.methodLink (mm_cn M.1) i t.2.1 ∈ mm_Ws := w2.resolve_left (by simp)
    have cb := callB_of (R := R) (args := args) (own := mm_cn M.1) (index := i) (rm := mm_rm F (h'.1 - h.1) (h'.2.1 - h.2.1)) t.2.2.2.2.2 hts (mm_good hco) rfl rfl rfl (hts _ w1) (hts _ w2') p2 hroom
    exact fin _ (va_runS ⟨hx, hb, hml, hown, hts⟩ hM ⟨cb, hts _ (mm_mthL_ok5 _ he rfl)⟩ ⟨mm_blind, hPc⟩ rfl (by rw [List.length_map]; exact hlen2) hl.1 (by rw [List.map_append, List.map_reverse]) (lv_room hsum') hd hcellb)
  · have hin := (mm_mthL_ok6 _ he)
    have hk0 : ¬ k = 0 := by rcases hk with ⟨q, -⟩ | ⟨q | q, -⟩ <;> omega
    have hin2 : t.1 < 5 ∧ Cond.instanceMethod t.2.1 ∈ mm_Ws := hin.resolve_left hk0
    have hstk : ((Value.ref a :: As).reverse ++ rest).map (mm_sh B) = (As.map (mm_sh B)).reverse ++ Value.ref (mm_am B a) :: rest.map (mm_sh B) := by
      rw [List.reverse_cons, List.append_assoc, List.map_append, List.map_reverse]
      rfl
    have hcell := mm_cellO hin2.1 (hP.2.2 a _ hca).2.2
    rcases hk with ⟨rfl, rfl⟩ | ⟨hk, rfl⟩
    · obtain rfl : 3 = len := hlen.resolve_left (by simp [mm_ln])
      have w2' : Cond.methodLink (mm_cn M.1) i t.2.1 ∈ mm_Ws := w2.resolve_left (by simp)
      have cb := callB_of (R := R) (args := args) (own := mm_cn M.1) (index := i) (rm := mm_rm F (h'.1 - h.1) (h'.2.1 - h.2.1)) t.2.2.2.2.2 hts (mm_good hco) rfl rfl rfl (hts _ w1) (hts _ w2') p2 hroom
      obtain ⟨-, cell, g1, g2, g3, -⟩ := hcell
      have hcls := (hWF.1.1 t.1 _ (mm_cl_at t.1 hin2.1)).2
      exact fin _ (va_runV (C := mm_cn t.1) (b := mm_am B a) (As := As.map (mm_sh B)) ⟨hx, hb, hml, hown, hts⟩ hM ⟨cb, hts _ hin2.2, hts _ (mm_mthL_ok7 _ he rfl)⟩ ⟨mm_blind, ⟨cell, g1, by rw [g3]; rfl, by rw [g2]; exact hcls.1⟩, hPc⟩ rfl (by rw [List.length_map]; exact hlen2) hl.1 hstk (lv_room hsum') hd hcellb)
    · obtain rfl : 3 = len := hlen.resolve_left (by simp [mm_ln])
      obtain ⟨n1, n2⟩ := mm_mthL_ok8 _ he hk
      have n2' : t.2.2.2.2.1 = none := by simpa using n2
      by_cases hk3 : k = 3
      · have w3 := mm_mthL_ok4 _ he hk3
        have hw3 := hWF.2.2.2.2 _ w3
        have cb := va_cnB (R := R) (args := args) (own := mm_cn M.1) (index := i) (host := RX3) (rm := mm_rm F (h'.1 - h.1) (h'.2.1 - h.2.1)) t.2.2.2.2.2 hts (mm_good hco) rfl rfl rfl hw3 (hts _ w1) p2 hroom
        rw [n2'] at cb
        exact fin _ (va_runIN (b := mm_am B a) (As := As.map (mm_sh B)) ⟨hx, hb, hml, hown, hts⟩ hM ⟨cb, n1, hts _ hin2.2⟩ ⟨mm_blind, hPc⟩ rfl (by rw [List.length_map]; exact hlen2) hl.1 hstk (lv_room hsum') hd hcellb)
      · have w2' : Cond.methodLink (mm_cn M.1) i t.2.1 ∈ mm_Ws := w2.resolve_left hk3
        have cb := callB_of (R := R) (args := args) (own := mm_cn M.1) (index := i) (rm := mm_rm F (h'.1 - h.1) (h'.2.1 - h.2.1)) t.2.2.2.2.2 hts (mm_good hco) rfl rfl rfl (hts _ w1) (hts _ w2') p2 hroom
        rw [n2'] at cb
        exact fin _ (va_runI (b := mm_am B a) (As := As.map (mm_sh B)) ⟨hx, hb, hml, hown, hts⟩ hM ⟨cb, n1, hts _ hin2.2⟩ ⟨mm_blind, hPc⟩ rfl (by rw [List.length_map]; exact hlen2) hl.1 hstk (lv_room hsum') hd hcellb)
end MG
set_option maxHeartbeats 4000000 in
/-- THE SIMULATION -/
theorem mm_sim (l : Launch) (D : va_G) (B : Nat × Nat) : ∀ n : Nat, mm_Sim l D B n := by
  intro n
  induction n with
  | zero => intro p e R s m args below meth c Q M sc F pc ls st h h' r cells slots C hsc hF hrun; cases hrun
  | succ n IH =>
    intro p e R s m args below meth c Q M sc F pc ls st h h' r cells slots C hsc hF hrun hr K
    unfold mm_run at hrun
    split at hrun
    · cases hrun
    · rename_i ins hat
      split at hrun
      · cases hrun
      · rename_i pc1 ls1 st1 h1 hq
        have m1 := mm_x_mono hq
        have m2 := mm_run_mono hrun
        dsimp only at m1
        refine mm_sound C hsc hF hat hq (by dsimp only; omega) (fun c' s' ec es => ?_)
        dsimp only at ec es ⊢
        refine IH p e R s m args below meth c Q M sc F pc1 ls1 st1 h1 h' r c' s' C hsc hF hrun (by omega) (fun pcr H' locs' lsA hR hP hS => ?_)
        have e1 : c' + (h'.1 - h1.1) = cells + (h'.1 - h.1) := by omega
        have e2 : s' + (h'.2.1 - h1.2.1) = slots + (h'.2.1 - h.2.1) := by omega
        rw [e1, e2]
        exact K pcr H' locs' lsA hR hP hS
      · rename_i t as rest hq
        split at hrun
        · cases hrun
        · rename_i F'
          split at hrun
          · cases hrun
          · rename_i r1 h1 hc
            have m1 := mm_run_mono hc
            have m2 := mm_run_mono hrun
            refine mm_callG C IH hF hat (mm_x_call hq) hc (by omega) ?_
            refine IH p e R s m args below meth c Q M sc (F' + 1) (pc + 3) ls (r1.toList ++ rest) h1 h' r _ _ C hsc hF hrun (by omega) (fun pcr H' locs' lsA hR hP hS => ?_)
            have e1 : cells + (h1.1 - h.1) + (h'.1 - h1.1) = cells + (h'.1 - h.1) := by omega
            have e2 : slots + (h1.2.1 - h.2.1) + (h'.2.1 - h1.2.1) = slots + (h'.2.1 - h.2.1) := by omega
            rw [e1, e2]
            exact K pcr H' locs' lsA hR hP hS
      · rename_i hq
        obtain ⟨hR, rfl⟩ := mm_x_ret hat hq
        cases hrun
        intro H locs lsA hP hS hl
        have k9 := K pc H locs lsA hR hP hS
        rw [Nat.sub_self, Nat.sub_self, Nat.add_zero, Nat.add_zero] at k9
        exact k9
