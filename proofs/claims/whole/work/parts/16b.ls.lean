/-! a run needs of its locals no more than it names: fewer, or in another order -/
def Rl (L ls : mm_L) : Prop := ∀ q ∈ L, mm_lk ls q.1 = some q.2
theorem mm_lk_mem {L : mm_L} {i : Nat} {v : Value} (h : mm_lk L i = some v) : (i, v) ∈ L := by
  obtain ⟨q, hq, hv⟩ := Option.map_eq_some_iff.mp h
  have h1 : q.1 = i := by simpa using List.find?_some hq
  have h2 := List.mem_of_find?_eq_some hq
  have e : q = (i, v) := by rw [← h1, ← hv]
  rwa [e] at h2
theorem lk_flt {p : Nat × Value → Bool} {j : Nat} {w : Value} : ∀ {ls : mm_L}, mm_lk ls j = some w → p (j, w) = true → mm_lk (ls.filter p) j = some w
  | [], h, _ => by cases h
  | q :: ls, h, hp => by
    unfold mm_lk at h ⊢
    by_cases e : (q.1 == j) = true
    · rw [List.find?_cons_of_pos (p := fun q : Nat × Value => q.1 == j) e] at h
      have e1 : q.1 = j := by simpa using e
      have e2 : q.2 = w := Option.some.inj h
      have e3 : q = (j, w) := by rw [← e1, ← e2]
      rw [e3, List.filter_cons_of_pos hp, List.find?_cons_of_pos (by simp)]
      rfl
    · rw [List.find?_cons_of_neg (p := fun q : Nat × Value => q.1 == j) e] at h
      have ih := lk_flt (p := p) (ls := ls) (j := j) (w := w) h hp
      unfold mm_lk at ih
      by_cases hq : p q = true
      · rw [List.filter_cons_of_pos hq, List.find?_cons_of_neg (p := fun q : Nat × Value => q.1 == j) e]
        exact ih
      · rw [List.filter_cons_of_neg hq]
        exact ih
theorem lk_hd (ls : mm_L) (i : Nat) (v : Value) : mm_lk ((i, v) :: ls) i = some v := by
  unfold mm_lk
  rw [List.find?_cons_of_pos (by simp)]
  rfl
theorem lk_tl {ls : mm_L} {i j : Nat} {v : Value} (h : ¬ i = j) : mm_lk ((i, v) :: ls) j = mm_lk ls j := by
  unfold mm_lk
  rw [List.find?_cons_of_neg (by simpa using h)]
theorem Rl.st1 {L ls : mm_L} (h : Rl L ls) (i : Nat) (v : Value) : Rl (mm_st1 L i v) (mm_st1 ls i v) := by
  intro q hq
  unfold mm_st1 at hq ⊢
  rcases List.mem_cons.mp hq with rfl | hq
  · exact lk_hd _ _ _
  · obtain ⟨h1, h2⟩ := List.mem_filter.mp hq
    have hne : ¬ i = q.1 := fun e => by simp [e] at h2
    rw [lk_tl hne]
    exact lk_flt (h q h1) h2
theorem Rl.st2 {L ls : mm_L} (h : Rl L ls) (i : Nat) (v : Value) : Rl (mm_st2 L i v) (mm_st2 ls i v) := by
  intro q hq
  unfold mm_st2 at hq ⊢
  rcases List.mem_cons.mp hq with rfl | hq
  · exact lk_hd _ _ _
  · obtain ⟨h1, h2⟩ := List.mem_filter.mp hq
    have hne : ¬ i = q.1 := fun e => by simp [e] at h2
    rw [lk_tl hne]
    exact lk_flt (h q h1) h2
theorem Rl.lk {L ls : mm_L} (h : Rl L ls) {i : Nat} {v : Value} (hl : mm_lk L i = some v) : mm_lk ls i = some v := h _ (mm_lk_mem hl)
def mm_RlR (L ls : mm_L) (w u : mm_R) : Prop := match w, u with
  | .inl (a, L', b, c), .inl (a', ls', b', c') => a = a' ∧ b = b' ∧ c = c' ∧ Rl L' ls'
  | .inr z, .inr z' => z = z'
  | _, _ => False
theorem mm_ld_ls {L ls : mm_L} (h : Rl L ls) {ty pc i : Nat} {st : List Value} {hh : mm_H} {w : mm_R} (hx : mm_ld ty pc L st hh i = some w) : ∃ u, mm_ld ty pc ls st hh i = some u ∧ mm_RlR L ls w u := by
  unfold mm_ld at hx ⊢
  cases hl : mm_lk L i with
  | none => rw [hl] at hx; split at hx <;> rename_i heq <;> first | (cases heq; done) | cases hx
  | some v =>
    rw [h.lk hl]
    rw [hl] at hx
    split at hx
    all_goals first | (cases hx; done) | (rename_i heq; cases heq; cases hx; exact ⟨_, rfl, rfl, rfl, rfl, h⟩)
theorem mm_sto_ls {L ls : mm_L} (h : Rl L ls) {ty nL pc i : Nat} {st : List Value} {hh : mm_H} {w : mm_R} (hx : mm_sto ty nL pc L st hh i = some w) : ∃ u, mm_sto ty nL pc ls st hh i = some u ∧ mm_RlR L ls w u := by
  unfold mm_sto at hx ⊢
  split at hx
  all_goals first
    | (cases hx; done)
    | (split at hx
       · rename_i hc
         cases hx
         rw [if_pos hc]
         first | exact ⟨_, rfl, rfl, rfl, rfl, h.st1 _ _⟩ | exact ⟨_, rfl, rfl, rfl, rfl, h.st2 _ _⟩
       · cases hx)
/-- does it look at the locals? -/
def mm_loc (ins : Instr) : Bool := match ins with
  | .iload_n _ | .iload _ | .lload_n _ | .lload _ | .aload_n _ | .aload _ | .istore_n _ | .istore _ | .lstore_n _ | .lstore _ | .astore_n _ | .astore _ | .iinc _ _ => true
  | _ => false
def mm_rp (ls : mm_L) (w : mm_R) : mm_R := match w with
  | .inl (a, _, b, c) => .inl (a, ls, b, c)
  | .inr z => .inr z
theorem mm_go_fr (ls : mm_L) {pc : Nat} {off : Int} {st : List Value} {h : mm_H} : mm_go pc off ls st h = (mm_go pc off [] st h).map (mm_rp ls) := by
  unfold mm_go
  split <;> rfl
theorem mm_call_fr (ls : mm_L) {t : mm_T} {n : Nat} {st : List Value} : mm_call t n st = (mm_call t n st).map (mm_rp ls) := by
  unfold mm_call
  split <;> rfl
set_option maxHeartbeats 4000000 in
theorem mm_x_fr (ls : mm_L) {sc : Option (List Int32)} {F pc : Nat} {M : mm_T} {ins : Instr} {st : List Value} {h : mm_H} (hn : mm_loc ins = false) : mm_x sc F M ins pc ls st h = (mm_x sc F M ins pc [] st h).map (mm_rp ls) := by
  cases ins <;> first
    | (cases hn; done)
    | (simp only [mm_x]; exact mm_go_fr ls)
    | rfl
    | (simp only [mm_x]; (repeat' split) <;> first | rfl | exact mm_go_fr ls | exact mm_call_fr ls | simp_all)
set_option maxHeartbeats 4000000 in
theorem mm_x_ls {L ls : mm_L} (h : Rl L ls) {sc : Option (List Int32)} {F pc : Nat} {M : mm_T} {ins : Instr} {st : List Value} {hh : mm_H} {w : mm_R} (hx : mm_x sc F M ins pc L st hh = some w) : ∃ u, mm_x sc F M ins pc ls st hh = some u ∧ mm_RlR L ls w u := by
  by_cases hn : mm_loc ins = false
  · rw [mm_x_fr L hn] at hx
    rw [mm_x_fr ls hn]
    obtain ⟨w0, h0, rfl⟩ := Option.map_eq_some_iff.mp hx
    rw [h0]
    refine ⟨_, rfl, ?_⟩
    match w0 with
    | .inl (a, _, b, c) => exact ⟨rfl, rfl, rfl, h⟩
    | .inr z => exact rfl
  · cases ins with
    | iinc i n =>
      simp only [mm_x] at hx ⊢
      cases hl : mm_lk L i with
      | none => simp [hl] at hx
      | some v =>
        cases v <;> simp only [hl] at hx <;> first | (cases hx; done) | skip
        split at hx
        · rename_i hc
          cases hx
          simp only [h.lk hl]
          rw [if_pos hc]
          exact ⟨_, rfl, rfl, rfl, rfl, h.st1 _ _⟩
        · cases hx
    | _ => first
      | exact absurd rfl hn
      | exact mm_ld_ls h hx
      | exact mm_sto_ls h hx
theorem mm_run_ls : ∀ {n : Nat} {sc : Option (List Int32)} {F pc : Nat} {M : mm_T} {L ls : mm_L} {st : List Value} {h : mm_H} {q : Option Value × mm_H}, Rl L ls → mm_run n sc F M pc L st h = some q → mm_run n sc F M pc ls st h = some q := by
  intro n
  induction n with
  | zero => intro sc F pc M L ls st h q hl hx; cases hx
  | succ n ih =>
    intro sc F pc M L ls st h q hl hx
    unfold mm_run at hx ⊢
    cases hat : mm_at M pc with
    | none => rw [hat] at hx; cases hx
    | some ins =>
      rw [hat] at hx
      dsimp only at hx ⊢
      cases hq : mm_x sc F M ins pc L st h with
      | none => rw [hq] at hx; cases hx
      | some w =>
        rw [hq] at hx
        obtain ⟨u, hu, hR⟩ := mm_x_ls hl hq
        rw [hu]
        match w, u, hR, hx with
        | .inl (a, L', b, c), .inl (a', ls', b', c'), hR, hx =>
          obtain ⟨rfl, rfl, rfl, hl'⟩ := hR
          exact ih hl' hx
        | .inr (.inl (t, as, rest)), .inr z, hR, hx =>
          have e : z = .inl (t, as, rest) := hR.symm
          subst e
          dsimp only at hx ⊢
          cases F with
          | zero => cases hx
          | succ F' =>
            dsimp only at hx ⊢
            cases hc : mm_run n none F' t 0 (lv_args 0 as) [] h with
            | none => rw [hc] at hx; cases hx
            | some w =>
              rw [hc] at hx
              exact ih hl hx
        | .inr (.inr r), .inr z, hR, hx =>
          have e : z = .inr r := hR.symm
          subst e
          exact hx
        | .inl _, .inr _, hR, hx => exact hR.elim
        | .inr _, .inl _, hR, hx => exact hR.elim
theorem mW.ls {sc : Option (List Int32)} {F pc : Nat} {M : mm_T} {L ls : mm_L} {st : List Value} {h : mm_H} {P : Option Value → mm_H → Prop} (k : mW sc F M pc L st h P) (hl : Rl L ls) : mW sc F M pc ls st h P := by
  obtain ⟨n, r, h', a, b⟩ := k
  exact ⟨n, r, h', mm_run_ls hl a, b⟩
theorem Rl.nil {ls : mm_L} : Rl [] ls := fun q h => by cases h
theorem Rl.cons {L ls : mm_L} {i : Nat} {v : Value} (h : Rl L ls) (hv : mm_lk ls i = some v) : Rl ((i, v) :: L) ls := fun q hq => by
  rcases List.mem_cons.mp hq with rfl | hq
  · exact hv
  · exact h q hq
