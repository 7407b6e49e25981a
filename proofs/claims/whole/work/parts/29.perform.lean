/-- the end of an act or a ringing in the class: beside the state, the rows of the ringings under way are as they were -/
def fP (q : Int32 × St) (S : St) (h : mm_H) : Option Value → mm_H → Prop := fun r h' => r = some (.int q.1) ∧ RC q.2 h' ∧ fr AC h h' ∧ ∀ e, e < sD S → h'.2.2 (10 + e) = h.2.2 (10 + e)
theorem fP.of {q : Int32 × St} {S : St} {h h' : mm_H} {r : Option Value} (ho : Ok S) (hp : cP q h r h') : fP q S h r h' := ⟨hp.1, hp.2.1, hp.2.2.mono (fun _ z => z.1), fun e he => hp.2.2.2.2 _ (fun z => z.2 (by have := ho.2.2.2.2.2.1; omega))⟩
/-- performing, as far as n goes -/
def PerfOK (n : Nat) : Prop := ∀ (F : Nat) (h : mm_H) (S : St) (o : Option Nat) (v : Int64), 3 * n + 8 ≤ F → Ok S → RC S h → (∀ k, o = some k → k < sM S) → 201 ≤ n + sS S → mW none F mX3_perform 0 [(0, .ref 1), (1, va_rf (o.map aa)), (2, .long v)] [] h (fP (m_perf n S o v) S h)
theorem call3 {M : mm_T} {o : Option Nat} {v : Int64} {a : Nat} {rest : List Value} (hM : 4 ≤ M.2.2.2.1) (hr : (rest.map fun v => v.category).sum ≤ 8) : mm_call M (2 + 1) (.long v :: va_rf o :: .ref a :: rest) = some (.inr (.inl (M, [.ref a, va_rf o, .long v], rest))) := by
  unfold mm_call
  have h3 : (((Value.long v :: va_rf o :: .ref a :: rest).take (2 + 1)).map fun v => v.category).sum ≤ M.2.2.2.1 := by
    show (Value.long v).category + ((va_rf o).category + ((Value.ref a).category + 0)) ≤ _
    rw [rf_cat]
    exact hM
  rw [if_pos ⟨by simp, by simpa using hr, h3⟩]
  rfl
theorem lvA3 {o : Option Nat} {v : Int64} {a : Nat} : lv_args 0 [.ref a, va_rf o, .long v] = [(0, .ref a), (1, va_rf o), (2, .long v)] := by cases o <;> rfl
theorem hx_in {S : St} {x : Int32} (ho : Ok S) (h : rN (sM S) x) : ∃ i, i < sM S ∧ x = nI i := rN_of (by have := ho.1; omega) h
theorem l_ringBell {n : Nat} (ih : PerfOK n) {F : Nat} (hF : 3 * n + 10 ≤ F + 2) {S0 : St} {h0 : mm_H} {j d : Nat} {v : Int64} {l rr : List Int32} {e0 : Int32} (hj : j < 6) (hd : d < 8) (hll : l.length + rr.length = 12) : ∀ (q p : List Int32) (S : St) (h : mm_H), l = p ++ q → Ok S → RC S h → sD S = d + 1 → 201 ≤ n + sS S → (∀ x ∈ q, rN (sM S) x) → h.2.2 (10 + d) = some (5, (l ++ rr).map Value.int) → fr AC h0 h → (∀ e, e < d → h.2.2 (10 + e) = h0.2.2 (10 + e)) →
    mW none (F + 2) mX3_ringBell 65 [(8, .int (nI p.length)), (7, .int 0), (6, .int (nI l.length)), (5, .ref (10 + d)), (4, .ref (18 + 2 * j)), (0, .ref 1), (1, .int (nI j)), (2, .long v)] [] h (fun r h' => r = some (.int (m_well (m_loop (m_perf n) j v q S).1)) ∧ RC (uD (m_loop (m_perf n) j v q S).2 (sD (m_loop (m_perf n) j v q S).2 - 1)) h' ∧ fr AC h0 h' ∧ ∀ e, e < d → h'.2.2 (10 + e) = h0.2.2 (10 + e)) := by
  have fin : ∀ (e : Int32) (S : St) (h : mm_H) (k8 : Int32), sD S = d + 1 → RC S h → fr AC h0 h → (∀ e, e < d → h.2.2 (10 + e) = h0.2.2 (10 + e)) → mW none (F + 2) mX3_ringBell 121 [(8, .int k8), (7, .int e), (6, .int (nI l.length)), (5, .ref (10 + d)), (4, .ref (18 + 2 * j)), (0, .ref 1), (1, .int (nI j)), (2, .long v)] [] h (fun r h' => r = some (.int (m_well e)) ∧ RC (uD S (sD S - 1)) h' ∧ fr AC h0 h' ∧ ∀ e, e < d → h'.2.2 (10 + e) = h0.2.2 (10 + e)) := fun e S h k8 hd1 hR hf hro => by
    refine w_aload_n (q := 122) aX3_ringBell_121 rfl rfl ?_
    refine w_dup (q := 123) aX3_ringBell_122 rfl rfl ?_
    refine w_get (q := 126) aX3_ringBell_123 f_3_146 (hR.ho) rfl rfl ?_
    refine w_iconst (v := 1) (q := 127) aX3_ringBell_126 rfl rfl ?_
    refine w_isub (q := 128) aX3_ringBell_127 rfl ?_
    refine w_put (q := 131) (fs' := [_, _, _, _, _, _, _, _, _, _, _, _, _, _, _, _, _]) aX3_ringBell_128 f_3_146 (hR.ho) (Nat.le_of_ble_eq_true rfl) rfl rfl (Or.inl rfl) rfl rfl ?_
    refine w_iload (q := 133) aX3_ringBell_131 rfl rfl ?_
    refine w_callS aX3_ringBell_133 x_3_94 t_3_94 (rfl) (c_wellIfStopped) (fun r133 h133 hp => ?_)
    obtain ⟨rfl, rfl⟩ := hp
    refine w_iret aX3_ringBell_136 rfl ?_
    refine ⟨rfl, ?_, hf.up (Or.inl (by omega)), fun e he => (up_n (by omega)).trans (hro e he)⟩
    refine hR.upHo (S' := uD S (sD S - 1)) ?_ ⟨rfl, rfl, rfl, rfl, rfl, rfl, rfl, rfl⟩
    show [Value.ref 2, .ref 3, .ref 4, .ref 7, .ref 8, .int (nI (sM S)), .ref 9, .int (nI (sD S) - 1), .int (nI (sS S)), .int (sC S 1), .int (sC S 2), .int (sC S 3), .int (sC S 4), .int (sC S 5), .int (sC S 6), .int (sC S 8), .int (sC S 9)] = _
    rw [hd1, nI_pred]
    rfl
  intro q
  induction q with
  | nil =>
    intro p S h hl ho hR hsd hn hq hrow hf hro
    rw [List.append_nil] at hl
    refine w_iload (q := 67) aX3_ringBell_65 rfl rfl ?_
    refine w_iload (q := 69) aX3_ringBell_67 rfl rfl ?_
    refine w_ic_ge (t := 121) (q := 72) aX3_ringBell_69 (by decide) rfl (fun c69 => ?_) (fun c69 => ?_)
    · exact fin 0 S h _ hsd hR hf hro
    · exact absurd (by rw [hl]; exact nI_le (Nat.le_refl _) (by rw [hl] at hll; omega)) c69
  | cons x q ihq =>
    intro p S h hl ho hR hsd hn hq hrow hf hro
    have hpl : p.length < l.length := by rw [hl]; simp
    obtain ⟨i, hi, rfl⟩ := hx_in ho (hq x List.mem_cons_self)
    have hM := ho.1
    obtain ⟨g, hg⟩ := hR.bel hj
    have hbl := hg.2.2.1
    refine w_iload (q := 67) aX3_ringBell_65 rfl rfl ?_
    refine w_iload (q := 69) aX3_ringBell_67 rfl rfl ?_
    refine w_ic_ge (t := 121) (q := 72) aX3_ringBell_69 (by decide) rfl (fun c69 => ?_) (fun c69 => ?_)
    · exact absurd c69 (nI_ge hpl (by omega))
    · refine w_iload (q := 74) aX3_ringBell_72 rfl rfl ?_
      refine w_if_ne (t := 121) (q := 77) aX3_ringBell_74 (by decide) rfl (fun c74 => ?_) (fun c74 => ?_)
      · exact absurd rfl c74
      · refine w_aload (q := 79) aX3_ringBell_77 rfl rfl ?_
        refine w_iload (q := 81) aX3_ringBell_79 rfl rfl ?_
        refine w_iald (q := 82) aX3_ringBell_81 (by omega) (hrow) (mm_ix_at (v := .int (nI i)) rfl (by omega) (ints_at (by rw [hl]; simp))) rfl ?_
        refine w_istore (q := 84) (ls' := [(9, _), (8, _), (7, _), (6, _), (5, _), (4, _), (0, _), (1, _), (2, _)]) aX3_ringBell_82 (by decide) rfl rfl ?_
        refine w_aload (q := 86) aX3_ringBell_84 rfl rfl ?_
        refine w_iload (q := 88) aX3_ringBell_86 rfl rfl ?_
        refine w_callV aX3_ringBell_88 t_3_153 (this_at rfl hg.1) (rfl) (c_placeOf hg) (fun r88 h88 hp => ?_)
        obtain ⟨rfl, rfl⟩ := hp
        unfold m_loop
        refine w_iconst (v := -1) (q := 92) aX3_ringBell_91 rfl rfl ?_
        refine w_ic_eq (t := 115) (q := 95) aX3_ringBell_92 (by decide) rfl (fun c92 => ?_) (fun c92 => ?_)
        · rw [if_neg ((pls_m1 (by omega)).mp c92)]
          refine w_iinc (q := 118) (ls' := [(8, _), (9, _), (7, _), (6, _), (5, _), (4, _), (0, _), (1, _), (2, _)]) aX3_ringBell_115 rfl rfl (by decide) rfl rfl ?_
          refine w_goto (t := 65) aX3_ringBell_118 (by decide) ?_
          rw [show nI p.length + Int32.ofInt 1 = nI (p ++ [nI i]).length from by rw [List.length_append]; exact nI_1 _]
          refine mW.ls (ihq (p ++ [nI i]) S h (by rw [hl]; simp) ho hR hsd hn (fun y hy => hq y (List.mem_cons_of_mem _ hy)) hrow hf hro) ?_
          exact ((((((((Rl.nil.cons rfl).cons rfl).cons rfl).cons rfl).cons rfl).cons rfl).cons rfl).cons rfl)
        · have hin : nI i ∈ sL S j := Classical.byContradiction fun z => c92 (pls_no z)
          rw [if_pos hin, nI_clamp (by omega)]
          have hgo := PfOk.perf n S (sH S i) v ho (ho.2.1 i)
          refine w_aload_n (q := 96) aX3_ringBell_95 rfl rfl ?_
          refine w_aload (q := 98) aX3_ringBell_96 rfl rfl ?_
          refine w_aload_n (q := 99) aX3_ringBell_98 rfl rfl ?_
          refine w_aload_n (q := 100) aX3_ringBell_99 rfl rfl ?_
          refine w_get (q := 103) aX3_ringBell_100 f_3_32 (hR.ho) rfl rfl ?_
          refine w_iload (q := 105) aX3_ringBell_103 rfl rfl ?_
          refine w_aald (q := 106) aX3_ringBell_105 (hR.ha) (by decide) (mm_ix_at (n := i) rfl (by omega) (rg_at (by omega))) rfl ?_
          refine w_lload_n (q := 107) aX3_ringBell_106 rfl rfl ?_
          refine w_callV aX3_ringBell_107 t_3_90 (this_at rfl hR.ho) (call3 (by decide) (Nat.le_of_ble_eq_true rfl)) ((by rw [lvA3]; exact ih _ h S (sH S i) v (by omega) ho hR (ho.2.1 i) hn)) (fun r107 h107 hp => ?_)
          obtain ⟨rfl, hR1, hf1, hro1⟩ := hp
          generalize hq1 : m_perf n S (sH S i) v = q1 at *
          obtain ⟨e1, S1⟩ := q1
          have ho1 := hgo.1 ho
          have hsd1 : sD S1 = d + 1 := hgo.2.1.2.2.2.2.trans hsd
          have hrow1 : h107.2.2 (10 + d) = some (5, (l ++ rr).map Value.int) := (hro1 d (by omega)).trans hrow
          refine w_callV aX3_ringBell_110 t_3_156 (this_at rfl hR1.ho) (rfl) (c_metByBell hj hR1) (fun r110 h110 hp => ?_)
          obtain ⟨rfl, hR2, hf2⟩ := hp
          have hgb := Go.bell S1 j e1
          generalize hq2 : m_bell S1 j e1 = q2 at *
          obtain ⟨e2, S2⟩ := q2
          have ho2 := hgb.1 ho1
          have hsd2 : sD S2 = d + 1 := hgb.2.1.2.2.2.2.trans hsd1
          have hrow2 : h110.2.2 (10 + d) = some (5, (l ++ rr).map Value.int) := (hf2.2.2 _ (fun z => z.2 (by omega))).trans hrow1
          have hf3 : fr AC h0 h110 := (hf.tr hf1).tr (hf2.mono (fun _ z => z.1))
          have hro3 : ∀ e, e < d → h110.2.2 (10 + e) = h0.2.2 (10 + e) := fun e he => ((hf2.2.2 _ (fun z => z.2 (by omega))).trans (hro1 e (by omega))).trans (hro e he)
          refine w_istore (q := 115) (ls' := [(7, _), (9, _), (8, _), (6, _), (5, _), (4, _), (0, _), (1, _), (2, _)]) aX3_ringBell_113 (by decide) rfl rfl ?_
          refine w_iinc (q := 118) (ls' := [(8, _), (7, _), (9, _), (6, _), (5, _), (4, _), (0, _), (1, _), (2, _)]) aX3_ringBell_115 rfl rfl (by decide) rfl rfl ?_
          refine w_goto (t := 65) aX3_ringBell_118 (by decide) ?_
          rw [show nI p.length + Int32.ofInt 1 = nI (p ++ [nI i]).length from by rw [List.length_append]; exact nI_1 _]
          by_cases he2 : e2 = 0
          · rw [if_pos he2]
            have he2' : e2 = 0 := he2
            subst he2'
            refine mW.ls (ihq (p ++ [nI i]) S2 h110 (by rw [hl]; simp) ho2 hR2 hsd2 (by have h8 := hgo.2.2; have h9 := hgb.2.2; dsimp only at h8 h9; omega) (fun y hy => ?_) hrow2 hf3 hro3) ?_
            · have h8 := hgo.2.1.1
              have h9 := hgb.2.1.1
              dsimp only at h8 h9
              rw [h9, h8]
              exact hq y (List.mem_cons_of_mem _ hy)
            · exact ((((((((Rl.nil.cons rfl).cons rfl).cons rfl).cons rfl).cons rfl).cons rfl).cons rfl).cons rfl)
          · rw [if_neg he2]
            refine w_iload (q := 67) aX3_ringBell_65 rfl rfl ?_
            refine w_iload (q := 69) aX3_ringBell_67 rfl rfl ?_
            refine w_ic_ge (t := 121) (q := 72) aX3_ringBell_69 (by decide) rfl (fun c69 => ?_) (fun c69 => ?_)
            · exact mW.ls (fin e2 S2 h110 _ hsd2 hR2 hf3 hro3) ((((((((Rl.nil.cons rfl).cons rfl).cons rfl).cons rfl).cons rfl).cons rfl).cons rfl).cons rfl)
            · refine w_iload (q := 74) aX3_ringBell_72 rfl rfl ?_
              refine w_if_ne (t := 121) (q := 77) aX3_ringBell_74 (by decide) rfl (fun c74 => ?_) (fun c74 => ?_)
              · exact mW.ls (fin e2 S2 h110 _ hsd2 hR2 hf3 hro3) ((((((((Rl.nil.cons rfl).cons rfl).cons rfl).cons rfl).cons rfl).cons rfl).cons rfl).cons rfl)
              · exact absurd c74 he2
theorem c_ringBell {n : Nat} (ih : PerfOK n) {F : Nat} {h : mm_H} {S : St} {j : Nat} {v : Int64} (hF : 3 * n + 10 ≤ F) (ho : Ok S) (hR : RC S h) (hj : j < 6) (hn : 201 ≤ n + sS S) : mW none F mX3_ringBell 0 [(0, .ref 1), (1, .int (nI j)), (2, .long v)] [] h (fP (m_ring (m_perf n) S j v) S h) := by
  obtain ⟨G, rfl⟩ : ∃ G, F = G + 2 := ⟨F - 2, by omega⟩
  unfold m_ring
  obtain ⟨g, hg⟩ := hR.bel hj
  have hbl := hg.2.2.1
  have hsd := ho.2.2.2.2.2.1
  refine w_aload_n (q := 1) aX3_ringBell_0 rfl rfl ?_
  refine w_get (q := 4) aX3_ringBell_1 f_3_146 (hR.ho) rfl rfl ?_
  refine w_bipush (v := 8) (q := 6) aX3_ringBell_4 rfl rfl ?_
  refine w_ic_lt (t := 11) (q := 9) aX3_ringBell_6 (by decide) rfl (fun c6 => ?_) (fun c6 => ?_)
  · have hd : sD S < 8 := (nI_ltI (b := 8) (by omega) (by omega)).mp c6
    rw [if_neg (by omega)]
    obtain ⟨rr, hrl, hrr⟩ := hR.rw hd
    refine w_aload_n (q := 12) aX3_ringBell_11 rfl rfl ?_
    refine w_get (q := 15) aX3_ringBell_12 f_3_15 (hR.ho) rfl rfl ?_
    refine w_iload_n (q := 16) aX3_ringBell_15 rfl rfl ?_
    refine w_aald (q := 17) aX3_ringBell_16 (hR.be) (by decide) (mm_ix_at (n := j) rfl (by omega) (rg_at hj)) rfl ?_
    refine w_astore (q := 19) (ls' := [(4, _), (0, _), (1, _), (2, _)]) aX3_ringBell_17 (by decide) rfl rfl ?_
    refine w_aload_n (q := 20) aX3_ringBell_19 rfl rfl ?_
    refine w_get (q := 23) aX3_ringBell_20 f_3_37 (hR.ho) rfl rfl ?_
    refine w_aload_n (q := 24) aX3_ringBell_23 rfl rfl ?_
    refine w_get (q := 27) aX3_ringBell_24 f_3_146 (hR.ho) rfl rfl ?_
    refine w_aald (q := 28) aX3_ringBell_27 (hR.ro) (by decide) (mm_ix_at (n := sD S) rfl (by omega) (rg_at hd)) rfl ?_
    refine w_astore (q := 30) (ls' := [(5, _), (4, _), (0, _), (1, _), (2, _)]) aX3_ringBell_28 (by decide) rfl rfl ?_
    refine w_aload (q := 32) aX3_ringBell_30 rfl rfl ?_
    refine w_aload (q := 34) aX3_ringBell_32 rfl rfl ?_
    refine w_callV aX3_ringBell_34 t_3_149 (this_at rfl hg.1) (rfl) (c_copyLine hg (by omega) (by omega) hrl hrr) (fun r34 h34 hp => ?_)
    obtain ⟨rfl, ⟨rr', hl', hrow⟩, hf⟩ := hp
    have hR1 := hR.upRo hd hf ⟨sL S j ++ rr', by rw [List.length_append]; exact hl', hrow⟩
    have hfA : fr AC h h34 := hf.mono (fun q hq => by have hq' : q = 10 + sD S := hq; exact Or.inl (by omega))
    refine w_istore (q := 39) (ls' := [(6, _), (5, _), (4, _), (0, _), (1, _), (2, _)]) aX3_ringBell_37 (by decide) rfl rfl ?_
    refine w_aload_n (q := 40) aX3_ringBell_39 rfl rfl ?_
    refine w_dup (q := 41) aX3_ringBell_40 rfl rfl ?_
    refine w_get (q := 44) aX3_ringBell_41 f_3_146 (hR1.ho) rfl rfl ?_
    refine w_iconst (v := 1) (q := 45) aX3_ringBell_44 rfl rfl ?_
    refine w_iadd (q := 46) aX3_ringBell_45 rfl ?_
    refine w_put (q := 49) (fs' := [_, _, _, _, _, _, _, _, _, _, _, _, _, _, _, _, _]) aX3_ringBell_46 f_3_146 (hR1.ho) (Nat.le_of_ble_eq_true rfl) rfl rfl (Or.inl rfl) rfl rfl ?_
    refine w_aload_n (q := 50) aX3_ringBell_49 rfl rfl ?_
    refine w_dup (q := 51) aX3_ringBell_50 rfl rfl ?_
    refine w_get (q := 54) aX3_ringBell_51 f_3_106 (up_s _ _ _) rfl rfl ?_
    refine w_iconst (v := 1) (q := 55) aX3_ringBell_54 rfl rfl ?_
    refine w_iadd (q := 56) aX3_ringBell_55 rfl ?_
    refine w_put (q := 59) (fs' := [_, _, _, _, _, _, _, _, _, _, _, _, _, _, _, _, _]) aX3_ringBell_56 f_3_106 (up_s _ _ _) (Nat.le_of_ble_eq_true rfl) rfl rfl (Or.inl rfl) rfl rfl ?_
    refine w_iconst (v := 0) (q := 60) aX3_ringBell_59 rfl rfl ?_
    refine w_istore (q := 62) (ls' := [(7, _), (6, _), (5, _), (4, _), (0, _), (1, _), (2, _)]) aX3_ringBell_60 (by decide) rfl rfl ?_
    refine w_iconst (v := 0) (q := 63) aX3_ringBell_62 rfl rfl ?_
    refine w_istore (q := 65) (ls' := [(8, _), (7, _), (6, _), (5, _), (4, _), (0, _), (1, _), (2, _)]) aX3_ringBell_63 (by decide) rfl rfl ?_
    have eh : ∀ S1 : St, hoL (uD S1 (sD S1 + 1)) = [Value.ref 2, .ref 3, .ref 4, .ref 7, .ref 8, .int (nI (sM S1)), .ref 9, .int (nI (sD S1) + 1), .int (nI (sS S1)), .int (sC S1 1), .int (sC S1 2), .int (sC S1 3), .int (sC S1 4), .int (sC S1 5), .int (sC S1 6), .int (sC S1 8), .int (sC S1 9)] := fun S1 => by rw [nI_1]; rfl
    have r1 := hR1.upHo (S' := uD S (sD S + 1)) (eh S).symm ⟨rfl, rfl, rfl, rfl, rfl, rfl, rfl, rfl⟩
    have r2 := r1.upHo (S' := uC (uD S (sD S + 1)) (inc (sC S) 2)) (by rw [show hoL (uC (uD S (sD S + 1)) (inc (sC S) 2)) = [Value.ref 2, .ref 3, .ref 4, .ref 7, .ref 8, .int (nI (sM S)), .ref 9, .int (nI (sD S + 1)), .int (nI (sS S)), .int (sC S 1), .int (sC S 2 + 1), .int (sC S 3), .int (sC S 4), .int (sC S 5), .int (sC S 6), .int (sC S 8), .int (sC S 9)] from rfl, ← nI_1]) ⟨rfl, rfl, rfl, rfl, rfl, rfl, rfl, rfl⟩
    have o1 : Ok (uC (uD S (sD S + 1)) (inc (sC S) 2)) := ⟨ho.1, ho.2.1, ho.2.2.1, ho.2.2.2.1, ho.2.2.2.2.1, by show sD S + 1 ≤ 8; omega, ho.2.2.2.2.2.2⟩
    exact l_ringBell ih (F := G) (by omega) (S0 := S) (h0 := h) (d := sD S) (rr := rr') (e0 := 0) hj hd hl' (sL S j) [] _ _ rfl o1 r2 rfl hn (ho.2.2.2.1 j hj) ((up_n (by omega)).trans ((up_n (by omega)).trans hrow)) ((hfA.up (Or.inl (by omega))).up (Or.inl (by omega))) (fun e he => (up_n (by omega)).trans ((up_n (by omega)).trans (hf.2.2 _ (by omega))))
  · have hd : 8 ≤ sD S := Nat.le_of_not_lt (fun z => c6 (nI_lt (b := 8) z (by omega)))
    rw [if_pos hd]
    refine w_iconst (v := 5) (q := 10) aX3_ringBell_9 rfl rfl ?_
    refine w_iret aX3_ringBell_10 rfl ?_
    exact ⟨rfl, hR, fr.rf, fun _ _ => rfl⟩
