/-! one step of the mini-machine that is no call and no return, as one step of the machine -/
theorem mm_at_dec {M : mm_T} {pc : Nat} {ins : Instr} (h : mm_at M pc = some ins) : ∃ len, decode M.2.2.1 pc = .ok (ins, len) ∧ (mm_ln ins = 0 ∨ mm_ln ins = len) := by
  unfold mm_at at h
  cases hd : decode M.2.2.1 pc with
  | error e => rw [hd] at h; cases h
  | ok q =>
    obtain ⟨i2, len⟩ := q
    rw [hd] at h
    by_cases hc : mm_ln i2 = 0 ∨ mm_ln i2 = len
    · have h' : (if mm_ln i2 = 0 ∨ mm_ln i2 = len then some i2 else none) = some ins := h
      rw [if_pos hc] at h'
      cases h'
      exact ⟨len, rfl, hc⟩
    · have h' : (if mm_ln i2 = 0 ∨ mm_ln i2 = len then some i2 else none) = some ins := h
      rw [if_neg hc] at h'
      cases h'
theorem mm_ld0 {pc i : Nat} {ls : mm_L} {st : List Value} {h : mm_H} {q : Nat × mm_L × List Value × mm_H} (hx : mm_ld 0 pc ls st h i = some (.inl q)) : ∃ x, mm_lk ls i = some (.int x) ∧ q = (pc, ls, .int x :: st, h) := by
  unfold mm_ld at hx
  cases hl : mm_lk ls i with
  | none => simp [hl] at hx
  | some v => cases v <;> simp [hl] at hx; exact ⟨_, rfl, hx.symm⟩
theorem mm_ld1 {pc i : Nat} {ls : mm_L} {st : List Value} {h : mm_H} {q : Nat × mm_L × List Value × mm_H} (hx : mm_ld 1 pc ls st h i = some (.inl q)) : ∃ x, mm_lk ls i = some (.long x) ∧ q = (pc, ls, .long x :: st, h) := by
  unfold mm_ld at hx
  cases hl : mm_lk ls i with
  | none => simp [hl] at hx
  | some v => cases v <;> simp [hl] at hx; exact ⟨_, rfl, hx.symm⟩
theorem mm_ld2 {pc i : Nat} {ls : mm_L} {st : List Value} {h : mm_H} {q : Nat × mm_L × List Value × mm_H} (hx : mm_ld 2 pc ls st h i = some (.inl q)) : (∃ x, mm_lk ls i = some (.ref x) ∧ q = (pc, ls, .ref x :: st, h)) ∨ (mm_lk ls i = some .null ∧ q = (pc, ls, .null :: st, h)) := by
  unfold mm_ld at hx
  cases hl : mm_lk ls i with
  | none => simp [hl] at hx
  | some v =>
    cases v <;> simp [hl] at hx
    · exact Or.inr ⟨rfl, hx.symm⟩
    · exact Or.inl ⟨_, rfl, hx.symm⟩
theorem mm_sto0 {pc nL i : Nat} {ls : mm_L} {st : List Value} {h : mm_H} {q : Nat × mm_L × List Value × mm_H} (hx : mm_sto 0 nL pc ls st h i = some (.inl q)) : ∃ x r, st = .int x :: r ∧ i < nL ∧ q = (pc, mm_st1 ls i (.int x), r, h) := by
  unfold mm_sto at hx
  cases st with
  | nil => simp at hx
  | cons v r => cases v <;> simp at hx; exact ⟨_, _, rfl, hx.1, hx.2.symm⟩
theorem mm_sto1 {pc nL i : Nat} {ls : mm_L} {st : List Value} {h : mm_H} {q : Nat × mm_L × List Value × mm_H} (hx : mm_sto 1 nL pc ls st h i = some (.inl q)) : ∃ x r, st = .long x :: r ∧ i + 1 < nL ∧ q = (pc, mm_st2 ls i (.long x), r, h) := by
  unfold mm_sto at hx
  cases st with
  | nil => simp at hx
  | cons v r => cases v <;> simp at hx; exact ⟨_, _, rfl, hx.1, hx.2.symm⟩
theorem mm_sto2 {pc nL i : Nat} {ls : mm_L} {st : List Value} {h : mm_H} {q : Nat × mm_L × List Value × mm_H} (hx : mm_sto 2 nL pc ls st h i = some (.inl q)) : (∃ x r, st = .ref x :: r ∧ i < nL ∧ q = (pc, mm_st1 ls i (.ref x), r, h)) ∨ (∃ r, st = .null :: r ∧ i < nL ∧ q = (pc, mm_st1 ls i .null, r, h)) := by
  unfold mm_sto at hx
  cases st with
  | nil => simp at hx
  | cons v r =>
    cases v <;> simp at hx
    · exact Or.inr ⟨_, rfl, hx.1, hx.2.symm⟩
    · exact Or.inl ⟨_, _, rfl, hx.1, hx.2.symm⟩
theorem mm_go_spec {pc : Nat} {off : Int} {ls : mm_L} {st : List Value} {h : mm_H} {q : Nat × mm_L × List Value × mm_H} (hx : mm_go pc off ls st h = some (.inl q)) : 0 ≤ (pc : Int) + off ∧ q = (((pc : Int) + off).toNat, ls, st, h) := by
  unfold mm_go at hx
  by_cases h0 : 0 ≤ (pc : Int) + off
  · rw [if_pos h0] at hx
    cases hx
    exact ⟨h0, rfl⟩
  · rw [if_neg h0] at hx
    cases hx
section MG
variable {p : Program} {l : Launch} {e : Env} {R : Room} {s : State} {m : MethodId} {args : Array Value} {below : List Frame} {meth : Method} {c : Code} {Q : State → Prop} {D : va_G} {B : Nat × Nat} {M : mm_T}
variable {pc cells slots : Nat} {ls : mm_L} {st r : List Value} {h : mm_H}
variable {F : Nat} {sc : Option (List Int32)} {ins : Instr} {q : Nat × mm_L × List Value × mm_H}
set_option maxHeartbeats 4000000 in
theorem mm_sound (C : mm_Ctx p s m args meth c D B M) (hsc : ∀ xs, sc = some xs → va_X B.1 xs.length (fun j => xs.getD j 0) s s.heap) (hF : F ≤ R.frames ∧ 40 * F ≤ R.locals) (hat : mm_at M pc = some ins) (hx : mm_x sc F M ins pc ls st h = some (.inl q))
    (hr : cells + (q.2.2.2.1 - h.1) ≤ R.cells ∧ slots + (q.2.2.2.2.1 - h.2.1) ≤ R.slots) (k : ∀ c' s', c' = cells + (q.2.2.2.1 - h.1) → s' = slots + (q.2.2.2.2.1 - h.2.1) → mm_G p l e R s m args below meth c Q D B M q.1 q.2.1 q.2.2.1 q.2.2.2 c' s') : mm_G p l e R s m args below meth c Q D B M pc ls st h cells slots := by
  obtain ⟨len, hd, hlen⟩ := mm_at_dec hat
  have same : ∀ {a b : Nat}, a = a + (b - b) := by intros; omega
  cases ins with
  | iconst n =>
    obtain rfl : 1 = len := hlen.resolve_left (by simp [mm_ln])
    cases hx
    exact mg_iconst C hd (k _ _ same same)
  | bipush n =>
    obtain rfl : 2 = len := hlen.resolve_left (by simp [mm_ln])
    cases hx
    exact mg_bipush C hd (k _ _ same same)
  | sipush n =>
    obtain rfl : 3 = len := hlen.resolve_left (by simp [mm_ln])
    cases hx
    exact mg_sipush C hd (k _ _ same same)
  | lconst n =>
    obtain rfl : 1 = len := hlen.resolve_left (by simp [mm_ln])
    cases hx
    exact mg_lconst C hd (k _ _ same same)
  | aconst_null =>
    obtain rfl : 1 = len := hlen.resolve_left (by simp [mm_ln])
    cases hx
    exact mg_null C hd (k _ _ same same)
  | ldc2_w i =>
    obtain rfl : 3 = len := hlen.resolve_left (by simp [mm_ln])
    simp only [mm_x] at hx
    cases hl : mm_ldc M.1 i with
    | none => rw [hl] at hx; cases hx
    | some x =>
      rw [hl] at hx
      cases hx
      exact mg_ldc C hd hl (k _ _ same same)
  | iload_n i =>
    obtain rfl : 1 = len := hlen.resolve_left (by simp [mm_ln])
    obtain ⟨x, hl, rfl⟩ := mm_ld0 hx
    exact mg_iload_n C hd hl (k _ _ same same)
  | iload i =>
    obtain rfl : 2 = len := hlen.resolve_left (by simp [mm_ln])
    obtain ⟨x, hl, rfl⟩ := mm_ld0 hx
    exact mg_iload C hd hl (k _ _ same same)
  | lload_n i =>
    obtain rfl : 1 = len := hlen.resolve_left (by simp [mm_ln])
    obtain ⟨x, hl, rfl⟩ := mm_ld1 hx
    exact mg_lload_n C hd hl (k _ _ same same)
  | lload i =>
    obtain rfl : 2 = len := hlen.resolve_left (by simp [mm_ln])
    obtain ⟨x, hl, rfl⟩ := mm_ld1 hx
    exact mg_lload C hd hl (k _ _ same same)
  | aload_n i =>
    obtain rfl : 1 = len := hlen.resolve_left (by simp [mm_ln])
    rcases mm_ld2 hx with ⟨x, hl, rfl⟩ | ⟨hl, rfl⟩
    · exact mg_aload_n C hd hl (k _ _ same same)
    · exact mg_aload_nN C hd hl (k _ _ same same)
  | aload i =>
    obtain rfl : 2 = len := hlen.resolve_left (by simp [mm_ln])
    rcases mm_ld2 hx with ⟨x, hl, rfl⟩ | ⟨hl, rfl⟩
    · exact mg_aload C hd hl (k _ _ same same)
    · exact mg_aloadN C hd hl (k _ _ same same)
  | istore_n i =>
    obtain rfl : 1 = len := hlen.resolve_left (by simp [mm_ln])
    obtain ⟨x, r, rfl, hi, rfl⟩ := mm_sto0 hx
    exact mg_istore_n C hd hi (k _ _ same same)
  | istore i =>
    obtain rfl : 2 = len := hlen.resolve_left (by simp [mm_ln])
    obtain ⟨x, r, rfl, hi, rfl⟩ := mm_sto0 hx
    exact mg_istore C hd hi (k _ _ same same)
  | lstore_n i =>
    obtain rfl : 1 = len := hlen.resolve_left (by simp [mm_ln])
    obtain ⟨x, r, rfl, hi, rfl⟩ := mm_sto1 hx
    exact mg_lstore_n C hd hi (k _ _ same same)
  | lstore i =>
    obtain rfl : 2 = len := hlen.resolve_left (by simp [mm_ln])
    obtain ⟨x, r, rfl, hi, rfl⟩ := mm_sto1 hx
    exact mg_lstore C hd hi (k _ _ same same)
  | astore_n i =>
    obtain rfl : 1 = len := hlen.resolve_left (by simp [mm_ln])
    rcases mm_sto2 hx with ⟨x, r, rfl, hi, rfl⟩ | ⟨r, rfl, hi, rfl⟩
    · exact mg_astore_n C hd hi (k _ _ same same)
    · exact mg_astore_nN C hd hi (k _ _ same same)
  | astore i =>
    obtain rfl : 2 = len := hlen.resolve_left (by simp [mm_ln])
    rcases mm_sto2 hx with ⟨x, r, rfl, hi, rfl⟩ | ⟨r, rfl, hi, rfl⟩
    · exact mg_astore C hd hi (k _ _ same same)
    · exact mg_astoreN C hd hi (k _ _ same same)
  | iinc i n =>
    obtain rfl : 3 = len := hlen.resolve_left (by simp [mm_ln])
    simp only [mm_x] at hx
    cases hl : mm_lk ls i with
    | none => simp [hl] at hx
    | some v =>
      cases v <;> simp [hl] at hx
      obtain ⟨hi, rfl⟩ := hx
      exact mg_iinc C hd hl hi (k _ _ same same)
  | dup =>
    obtain rfl : 1 = len := hlen.resolve_left (by simp [mm_ln])
    cases st with
    | nil => simp [mm_x] at hx
    | cons v r =>
      simp [mm_x] at hx
      obtain ⟨hv, rfl⟩ := hx
      exact mg_dup C hd hv (k _ _ same same)
  | pop =>
    obtain rfl : 1 = len := hlen.resolve_left (by simp [mm_ln])
    cases st with
    | nil => simp [mm_x] at hx
    | cons v r =>
      simp [mm_x] at hx
      obtain ⟨hv, rfl⟩ := hx
      exact mg_pop C hd hv (k _ _ same same)
  | dup_x1 =>
    obtain rfl : 1 = len := hlen.resolve_left (by simp [mm_ln])
    match st, hx with
    | v :: u :: r, hx =>
      simp [mm_x] at hx
      obtain ⟨⟨hv, hu⟩, rfl⟩ := hx
      exact mg_dup_x1 C hd hv hu (k _ _ same same)
    | [], hx => simp [mm_x] at hx
    | [_], hx => simp [mm_x] at hx
  | dup2 =>
    obtain rfl : 1 = len := hlen.resolve_left (by simp [mm_ln])
    match st, hx with
    | v :: u :: r, hx =>
      simp [mm_x] at hx
      obtain ⟨⟨hv, hu⟩, rfl⟩ := hx
      exact mg_dup2 C hd hv hu (k _ _ same same)
    | [], hx => simp [mm_x] at hx
    | [_], hx => simp [mm_x] at hx
  | i2l =>
    obtain rfl : 1 = len := hlen.resolve_left (by simp [mm_ln])
    simp only [mm_x] at hx
    split at hx
    · cases hx
      exact mg_i2l C hd (k _ _ same same)
    · cases hx
  | l2i =>
    obtain rfl : 1 = len := hlen.resolve_left (by simp [mm_ln])
    simp only [mm_x] at hx
    split at hx
    · cases hx
      exact mg_l2i C hd (k _ _ same same)
    · cases hx
  | lshl =>
    obtain rfl : 1 = len := hlen.resolve_left (by simp [mm_ln])
    simp only [mm_x] at hx
    split at hx
    · cases hx
      exact mg_lshl C hd (k _ _ same same)
    · cases hx
  | lcmp =>
    obtain rfl : 1 = len := hlen.resolve_left (by simp [mm_ln])
    simp only [mm_x] at hx
    split at hx
    · cases hx
      exact mg_lcmp C hd (k _ _ same same)
    · cases hx
  | ifCond cd off =>
    obtain rfl : 3 = len := hlen.resolve_left (by simp [mm_ln])
    simp only [mm_x] at hx
    split at hx
    · rename_i x r
      by_cases hc : mm_cmp cd x 0 = true
      · rw [if_pos hc] at hx
        obtain ⟨h0, rfl⟩ := mm_go_spec hx
        exact mg_if C hd (fun _ => h0) (fun _ => k _ _ same same) (fun z => absurd hc z)
      · rw [if_neg hc] at hx
        cases hx
        exact mg_if C hd (fun z => absurd z hc) (fun z => absurd z hc) (fun _ => k _ _ same same)
    · cases hx
  | if_icmp cd off =>
    obtain rfl : 3 = len := hlen.resolve_left (by simp [mm_ln])
    simp only [mm_x] at hx
    split at hx
    · rename_i y x r
      by_cases hc : mm_cmp cd x y = true
      · rw [if_pos hc] at hx
        obtain ⟨h0, rfl⟩ := mm_go_spec hx
        exact mg_icmp C hd (fun _ => h0) (fun _ => k _ _ same same) (fun z => absurd hc z)
      · rw [if_neg hc] at hx
        cases hx
        exact mg_icmp C hd (fun z => absurd z hc) (fun z => absurd z hc) (fun _ => k _ _ same same)
    · cases hx
  | ifnonnull off =>
    obtain rfl : 3 = len := hlen.resolve_left (by simp [mm_ln])
    simp only [mm_x] at hx
    split at hx
    · cases hx
      exact mg_nonnullN C hd (k _ _ same same)
    · obtain ⟨h0, rfl⟩ := mm_go_spec hx
      exact mg_nonnull C hd h0 (k _ _ same same)
    · cases hx
  | goto off =>
    obtain rfl : 3 = len := hlen.resolve_left (by simp [mm_ln])
    obtain ⟨h0, rfl⟩ := mm_go_spec hx
    exact mg_goto C hd h0 (k _ _ same same)
  | tableswitch d lo hi offs =>
    simp only [mm_x] at hx
    split at hx
    · rename_i x r
      by_cases hc : x.toInt < lo ∨ hi < x.toInt
      · rw [if_pos hc] at hx
        obtain ⟨h0, rfl⟩ := mm_go_spec hx
        exact mg_tabOut C hd hc h0 (k _ _ same same)
      · rw [if_neg hc] at hx
        cases ho : offs[(x.toInt - lo).toNat]? with
        | none => rw [ho] at hx; cases hx
        | some o =>
          rw [ho] at hx
          obtain ⟨h0, rfl⟩ := mm_go_spec hx
          exact mg_tabIn C hd hc ho h0 (k _ _ same same)
    · cases hx
  | getfield i =>
    obtain rfl : 3 = len := hlen.resolve_left (by simp [mm_ln])
    simp only [mm_x] at hx
    split at hx
    · rename_i a r ci f hf
      split at hx
      · rename_i c9 hc
        obtain ⟨ci2, fs⟩ := c9
        split at hx
        · rename_i he
          split at hx
          · rename_i v hv
            cases hx
            have he' : ci2 = ci := he
            subst he'
            exact mg_get C hd hf hc hv (k _ _ same same)
          · cases hx
        · cases hx
      · cases hx
    · cases hx
  | putfield i =>
    obtain rfl : 3 = len := hlen.resolve_left (by simp [mm_ln])
    simp only [mm_x] at hx
    split at hx
    · rename_i v a r ci f hf
      split at hx
      · rename_i c9 hc
        obtain ⟨ci2, fs⟩ := c9
        split at hx
        · rename_i he
          obtain ⟨he', g1, g2, g3, g4⟩ := he
          have he' : ci2 = ci := he'
          subst he'
          cases hx
          exact mg_put C hd hf hc g1 g2 g3 g4 (k _ _ same same)
        · cases hx
      · cases hx
    · cases hx
  | iaload =>
    obtain rfl : 1 = len := hlen.resolve_left (by simp [mm_ln])
    simp only [mm_x] at hx
    split at hx
    · rename_i j a r
      split at hx
      · rename_i ha
        subst ha
        split at hx
        · rename_i xs
          split at hx
          · cases hx
          · rename_i hj
            split at hx
            · rename_i x hv
              cases hx
              exact mg_sld C (hsc xs rfl) hd hj hv (k _ _ same same)
            · cases hx
        · cases hx
      · split at hx
        · rename_i c9 hc
          obtain ⟨ci2, fs⟩ := c9
          split at hx
          · rename_i he
            have he' : ci2 = 5 := he
            subst he'
            split at hx
            · rename_i v hv
              cases hx
              exact mg_iald C hd hc hv (k _ _ same same)
            · cases hx
          · cases hx
        · cases hx
    · cases hx
  | laload =>
    obtain rfl : 1 = len := hlen.resolve_left (by simp [mm_ln])
    simp only [mm_x] at hx
    split at hx
    · split at hx
      · rename_i c9 hc
        obtain ⟨ci2, fs⟩ := c9
        split at hx
        · rename_i he
          have he' : ci2 = 6 := he
          subst he'
          split at hx
          · rename_i v hv
            cases hx
            exact mg_lald C hd hc hv (k _ _ same same)
          · cases hx
        · cases hx
      · cases hx
    · cases hx
  | aaload =>
    obtain rfl : 1 = len := hlen.resolve_left (by simp [mm_ln])
    simp only [mm_x] at hx
    split at hx
    · split at hx
      · rename_i c9 hc
        obtain ⟨ci2, fs⟩ := c9
        split at hx
        · rename_i he
          split at hx
          · rename_i v hv
            cases hx
            exact mg_aald C hd he hc hv (k _ _ same same)
          · cases hx
        · cases hx
      · cases hx
    · cases hx
  | iastore =>
    obtain rfl : 1 = len := hlen.resolve_left (by simp [mm_ln])
    simp only [mm_x] at hx
    split at hx
    · split at hx
      · rename_i c9 hc
        obtain ⟨ci2, fs⟩ := c9
        split at hx
        · rename_i he
          obtain ⟨he', g1, g2⟩ := he
          have he' : ci2 = 5 := he'
          subst he'
          cases hx
          exact mg_iast C hd hc g1 g2 (k _ _ same same)
        · cases hx
      · cases hx
    · cases hx
  | lastore =>
    obtain rfl : 1 = len := hlen.resolve_left (by simp [mm_ln])
    simp only [mm_x] at hx
    split at hx
    · split at hx
      · rename_i c9 hc
        obtain ⟨ci2, fs⟩ := c9
        split at hx
        · rename_i he
          obtain ⟨he', g1, g2⟩ := he
          have he' : ci2 = 6 := he'
          subst he'
          cases hx
          exact mg_last C hd hc g1 g2 (k _ _ same same)
        · cases hx
      · cases hx
    · cases hx
  | aastore =>
    obtain rfl : 1 = len := hlen.resolve_left (by simp [mm_ln])
    simp only [mm_x] at hx
    split at hx
    · rename_i v j a r
      split at hx
      · rename_i c9 hc
        obtain ⟨ci2, fs⟩ := c9
        split at hx
        · rename_i he
          obtain ⟨he, g1, g2⟩ := he
          cases hx
          have kk := k _ _ (same (a := cells) (b := h.1)) (same (a := slots) (b := h.2.1))
          have he2 : (ci2 = 7 ∧ mm_okv h 0 v = true) ∨ (ci2 = 8 ∧ mm_okv h 1 v = true) := he
          cases v with
          | null => exact mg_aastN C hd (by rcases he2 with ⟨q, -⟩ | ⟨q, -⟩ <;> simp [q]) hc g1 g2 kk
          | ref b =>
            have key : ∀ z, ci2 = 7 + z → (z = 0 ∨ z = 1) → mm_okv h z (.ref b) = true → mm_G p l e R s m args below meth c Q D B M pc ls (.ref b :: .int j :: .ref a :: r) h cells slots := by
              intro z hz hz1 hok
              subst hz
              simp only [mm_okv] at hok
              split at hok
              · rename_i c8 hb8
                obtain ⟨ci8, us⟩ := c8
                have e8 : ci8 = z := by simpa using hok
                subst e8
                exact mg_aast C hd hz1 hc hb8 g1 g2 kk
              · cases hok
            rcases he2 with ⟨q1, q2⟩ | ⟨q1, q2⟩
            · exact key 0 q1 (Or.inl rfl) q2
            · exact key 1 q1 (Or.inr rfl) q2
          | _ => rcases he2 with ⟨q1, q2⟩ | ⟨q1, q2⟩ <;> cases q2
        · cases hx
      · cases hx
    · cases hx
  | arraylength =>
    obtain rfl : 1 = len := hlen.resolve_left (by simp [mm_ln])
    simp only [mm_x] at hx
    split at hx
    · rename_i a r xs
      split at hx
      · rename_i ha
        subst ha
        cases hx
        exact mg_slen C (hsc xs rfl) hd (k _ _ same same)
      · cases hx
    · cases hx
  | newarray ty =>
    obtain rfl : 2 = len := hlen.resolve_left (by simp [mm_ln])
    simp only [mm_x] at hx
    split at hx
    · rename_i n r
      split at hx
      · cases hx
      · rename_i hn
        cases hx
        have hn2 : (mm_new h (5, List.replicate n.toNatClampNeg (.int 0))).2.1 = h.2.1 + n.toNatClampNeg := by simp [mm_new]
        have hn1 : (mm_new h (5, List.replicate n.toNatClampNeg (.int 0))).1 = h.1 + 1 := rfl
        dsimp only at hr k
        rw [hn1, hn2] at hr k
        exact mg_newI C hd (fun z => hn (Or.inl z)) (fun z => hn (Or.inr z)) (by omega) (by omega) (k _ _ (by omega) (by omega))
    · rename_i n r
      split at hx
      · cases hx
      · rename_i hn
        cases hx
        have hn2 : (mm_new h (6, List.replicate n.toNatClampNeg (.long 0))).2.1 = h.2.1 + n.toNatClampNeg := by simp [mm_new]
        have hn1 : (mm_new h (6, List.replicate n.toNatClampNeg (.long 0))).1 = h.1 + 1 := rfl
        dsimp only at hr k
        rw [hn1, hn2] at hr k
        exact mg_newJ C hd (fun z => hn (Or.inl z)) (fun z => hn (Or.inr z)) (by omega) (by omega) (k _ _ (by omega) (by omega))
    · cases hx
  | anewarray i =>
    obtain rfl : 3 = len := hlen.resolve_left (by simp [mm_ln])
    simp only [mm_x] at hx
    split at hx
    · rename_i n r z hz
      split at hx
      · cases hx
      · rename_i hn
        cases hx
        have hn2 : (mm_new h (7 + z, List.replicate n.toNatClampNeg .null)).2.1 = h.2.1 + n.toNatClampNeg := by simp [mm_new]
        have hn1 : (mm_new h (7 + z, List.replicate n.toNatClampNeg .null)).1 = h.1 + 1 := rfl
        dsimp only at hr k
        rw [hn1, hn2] at hr k
        exact mg_newA C hd hz (by omega) (fun z => hn (Or.inl z)) (fun z => hn (Or.inr (Or.inl z))) (by omega) (by omega) (k _ _ (by omega) (by omega))
    · cases hx
  | multianewarray i d =>
    obtain rfl : 4 = len := hlen.resolve_left (by simp [mm_ln])
    simp only [mm_x] at hx
    split at hx
    · rename_i kk n r hz
      split at hx
      · cases hx
      · rename_i hn
        cases hx
        have hn2 : (mm_grid h n.toNatClampNeg kk.toNatClampNeg).2.1 = h.2.1 + (n.toNatClampNeg + n.toNatClampNeg * kk.toNatClampNeg) := rfl
        have hn1 : (mm_grid h n.toNatClampNeg kk.toNatClampNeg).1 = h.1 + 1 + n.toNatClampNeg := rfl
        dsimp only at hr k
        rw [hn1, hn2] at hr k
        have hd2 : d = 2 := Classical.not_not.mp (fun z => hn (Or.inr (Or.inr (Or.inr (Or.inr z)))))
        subst hd2
        exact mg_mna C hd hz (fun z => hn (Or.inl z)) (fun z => hn (Or.inr (Or.inl z))) (fun z => hn (Or.inr (Or.inr (Or.inl z)))) (fun z => hn (Or.inr (Or.inr (Or.inr (Or.inl z))))) (by omega) (by omega) (k _ _ (by omega) (by omega))
    · cases hx
  | new i =>
    obtain rfl : 3 = len := hlen.resolve_left (by simp [mm_ln])
    simp only [mm_x] at hx
    split at hx
    · rename_i z hz
      split at hx
      · cases hx
      · rename_i hn
        cases hx
        have hn2 : (mm_new h (z, mm_df z)).2.1 = h.2.1 + (mm_df z).length := rfl
        have hn1 : (mm_new h (z, mm_df z)).1 = h.1 + 1 := rfl
        dsimp only at hr k
        rw [hn1, hn2] at hr k
        exact mg_new C hd hz (by omega) (by omega) (by omega) (k _ _ (by omega) (by omega))
    · cases hx
  | invokestatic i =>
    obtain rfl : 3 = len := hlen.resolve_left (by simp [mm_ln])
    simp only [mm_x] at hx
    split at hx
    · rename_i z hz
      split at hx
      · split at hx
        · rename_i hn
          cases hx
          have h9 : cells + (h.1 - h.1) ≤ R.cells ∧ slots + (h.2.1 - h.2.1) ≤ R.slots := hr
          exact mg_maxI C hd hz (by omega) (by omega) hn.2 (by omega) (by omega) (k _ _ same same)
        · cases hx
      · split at hx
        · rename_i hn
          cases hx
          have h9 : cells + (h.1 - h.1) ≤ R.cells ∧ slots + (h.2.1 - h.2.1) ≤ R.slots := hr
          exact mg_maxJ C hd hz (by omega) (by omega) hn.2 (by omega) (by omega) (k _ _ same same)
        · cases hx
      · cases hx
    · split at hx
      · unfold mm_call at hx
        split at hx <;> cases hx
      · cases hx
  | invokevirtual i =>
    simp only [mm_x] at hx
    split at hx
    · split at hx
      · unfold mm_call at hx
        split at hx <;> cases hx
      · cases hx
    · cases hx
  | invokespecial i =>
    obtain rfl : 3 = len := hlen.resolve_left (by simp [mm_ln])
    simp only [mm_x] at hx
    split at hx
    · rename_i ho
      split at hx
      · split at hx
        · rename_i hn
          cases hx
          exact mg_obj C hd (by simpa using ho) (by omega) (by omega) hn.2 (k _ _ same same)
        · cases hx
      · cases hx
    · split at hx
      · split at hx
        · unfold mm_call at hx
          split at hx <;> cases hx
        · cases hx
      · cases hx
  | ireturn =>
    simp only [mm_x] at hx
    split at hx
    · split at hx <;> cases hx
    · cases hx
  | lreturn =>
    simp only [mm_x] at hx
    split at hx
    · split at hx <;> cases hx
    · cases hx
  | return_ =>
    simp only [mm_x] at hx
    split at hx
    · split at hx <;> cases hx
    · cases hx
  | iadd =>
    obtain rfl : 1 = len := hlen.resolve_left (by simp [mm_ln])
    simp only [mm_x, mm_bi, mm_bl] at hx
    split at hx
    · cases hx
      exact mg_iadd C hd (k _ _ same same)
    · cases hx
    · cases hx
  | isub =>
    obtain rfl : 1 = len := hlen.resolve_left (by simp [mm_ln])
    simp only [mm_x, mm_bi, mm_bl] at hx
    split at hx
    · cases hx
      exact mg_isub C hd (k _ _ same same)
    · cases hx
    · cases hx
  | imul =>
    obtain rfl : 1 = len := hlen.resolve_left (by simp [mm_ln])
    simp only [mm_x, mm_bi, mm_bl] at hx
    split at hx
    · cases hx
      exact mg_imul C hd (k _ _ same same)
    · cases hx
    · cases hx
  | iand =>
    obtain rfl : 1 = len := hlen.resolve_left (by simp [mm_ln])
    simp only [mm_x, mm_bi, mm_bl] at hx
    split at hx
    · cases hx
      exact mg_iand C hd (k _ _ same same)
    · cases hx
    · cases hx
  | irem =>
    obtain rfl : 1 = len := hlen.resolve_left (by simp [mm_ln])
    simp only [mm_x, mm_bi, mm_bl] at hx
    split at hx
    · rename_i y x r
      by_cases hy : y = 0
      · rw [if_pos hy] at hx
        cases hx
      · rw [if_neg hy] at hx
        cases hx
        exact mg_irem C hd hy (k _ _ same same)
    · cases hx
    · cases hx
  | ladd =>
    obtain rfl : 1 = len := hlen.resolve_left (by simp [mm_ln])
    simp only [mm_x, mm_bi, mm_bl] at hx
    split at hx
    · cases hx
    · cases hx
      exact mg_ladd C hd (k _ _ same same)
    · cases hx
  | land =>
    obtain rfl : 1 = len := hlen.resolve_left (by simp [mm_ln])
    simp only [mm_x, mm_bi, mm_bl] at hx
    split at hx
    · cases hx
    · cases hx
      exact mg_land C hd (k _ _ same same)
    · cases hx
  | lor =>
    obtain rfl : 1 = len := hlen.resolve_left (by simp [mm_ln])
    simp only [mm_x, mm_bi, mm_bl] at hx
    split at hx
    · cases hx
    · cases hx
      exact mg_lor C hd (k _ _ same same)
    · cases hx
  | ldiv =>
    obtain rfl : 1 = len := hlen.resolve_left (by simp [mm_ln])
    simp only [mm_x, mm_bi, mm_bl] at hx
    split at hx
    · cases hx
    · rename_i y x r
      by_cases hy : y = 0
      · rw [if_pos hy] at hx
        cases hx
      · rw [if_neg hy] at hx
        cases hx
        exact mg_ldiv C hd hy (k _ _ same same)
    · cases hx
  | _ =>
    simp only [mm_x, mm_bi, mm_bl] at hx
    split at hx <;> cases hx
end MG
