/-- works' end -/
def wP (q : Int32 × St) (h : mm_H) : Option Value → mm_H → Prop := fun r h' => r = none ∧ (∃ u, RM q.2 [] (q.1, 0, -1, u) h') ∧ fr AM h h'
theorem Zk_fin {F : Nat} {h0 : mm_H} {S : St} {e : Int32} : Zk F h0 (wP (m_well e, S) h0) S [] e := by
  by_cases e0 : e = 0
  · subst e0
    exact Zk.z0 (fun u => k_rest (fun h hR hf => ⟨rfl, ⟨u, hR⟩, hf⟩))
  by_cases e7 : e = 7
  · subst e7
    exact Zk.stop (S1 := S) (Q1 := []) rfl (Zk.z0 (fun u => k_rest (fun h hR hf => ⟨rfl, ⟨u, hR⟩, hf⟩)))
  unfold Zk
  rw [if_neg e0, if_neg e7]
  have ew : m_well e = e := if_neg e7
  rw [ew]
  show if e = 0 then _ else _
  rw [if_neg e0]
  exact fun u h hR hf => ⟨rfl, ⟨u, hR⟩, hf⟩
theorem s_works {F : Nat} {h0 : mm_H} {Po : Option Value → mm_H → Prop} {S : St} {P : List Fr} {X : Xs} (k : WkP F h0 Po S P X) (hR : RM S P X h0) : mW none (F + 4) mX4_works 0 [(0, .ref 32)] [] h0 Po := by
  refine w_iconst (v := 1) (q := 1) aX4_works_0 rfl rfl ?_
  refine w_istore_n (q := 2) (ls' := [(1, _), (0, _)]) aX4_works_1 (by decide) rfl rfl ?_
  exact k h0 hR fr.rf
theorem W_perf {F N : Nat} {h : mm_H} {S : St} {o : Option Nat} {v u : Int64} (hI : Iv N S []) (ho : ∀ k, o = some k → k < sM S) (hR : RM S [] (Xb o v u) h) : mW none (F + 4) mX4_works 0 [(0, .ref 32)] [] h (wP (m_well (m_perf 201 S o v).1, (m_perf 201 S o v).2) h) := s_works (k_perf (N := N) 201 S [] o v u hI ho (by omega) Zk_fin) hR
theorem W_idle {F : Nat} {h : mm_H} {S : St} {u : Int64} (hR : RM S [] (0, 0, -1, u) h) : mW none (F + 4) mX4_works 0 [(0, .ref 32)] [] h (wP (0, S) h) := s_works (k_rest (fun h hR hf => ⟨rfl, ⟨u, hR⟩, hf⟩)) hR
theorem W_ring {F N : Nat} {h : mm_H} {S : St} {k : Nat} {v u : Int64} (hk : k < 6) (hI : Iv N S []) (hR : RM (r_rings S k v u []).1 (r_rings S k v u []).2.1 (r_rings S k v u []).2.2 h) : mW none (F + 4) mX4_works 0 [(0, .ref 32)] [] h (wP (m_ring (m_perf 201) S k v) h) := by
  have hd : sD S = 0 := hI.2.2.1.symm
  have hd8 : ¬ 8 ≤ sD S := by omega
  unfold r_rings at hR
  rw [if_neg hd8] at hR
  unfold m_ring
  rw [if_neg hd8]
  have hI2 := hI.ring (f := (0, nI k, v, sL S k, 0)) (c := inc (sC S) 2) (by show 0 ≤ sS S; omega) ⟨fun _ => ⟨k, hk, rfl, hI.1.2.2.2.1 k hk⟩, fun z => absurd (show (0 : Int32) = 1 from z) (by decide), fun z => absurd (show (0 : Int32) = 2 from z) (by decide), Or.inl rfl⟩ rfl hd8
  have hw := (er.well ((PfW.perf 201).loop (k := k) (v := v) (sL S k) (uC (uD S (sD S + 1)) (inc (sC S) 2))).1)
  have hz : m_well (m_well (m_loop (m_perf 201) k v (sL S k) (uC (uD S (sD S + 1)) (inc (sC S) 2))).1) = m_well (m_loop (m_perf 201) k v (sL S k) (uC (uD S (sD S + 1)) (inc (sC S) 2))).1 := if_neg hw.2
  have hZ := Zk_fin (F := F) (h0 := h) (S := uD (m_loop (m_perf 201) k v (sL S k) (uC (uD S (sD S + 1)) (inc (sC S) 2))).2 (sD (m_loop (m_perf 201) k v (sL S k) (uC (uD S (sD S + 1)) (inc (sC S) 2))).2 - 1)) (e := m_well (m_loop (m_perf 201) k v (sL S k) (uC (uD S (sD S + 1)) (inc (sC S) 2))).1)
  rw [hz] at hZ
  exact s_works (k_loop (k_perf (N := N) 201) hk (sL S k) [] _ [] u hI2 (by omega) hZ) hR
def wq (w : Raw) (qb : Nat → Int32) (qv : Nat → Int64) : Raw := (w.1, w.2.1, qb, qv, w.2.2.2.2)
theorem m_qs {F : Nat} {S : St} {n : Nat} {X : Xs} {w : Raw} {h0 : mm_H} {b : Int32} {v : Int64} {Po : Option Value → mm_H → Prop} (hl : (sQ S).length < 20) (K : ∀ qb qv h, hM S n X (wq w qb qv) h → (∀ j e, (sQ S)[j]? = some e → qb j = e.1 ∧ qv j = e.2) → fr AM h0 h → mW none F mX4_all 92 [(4, .int (nI (sQ S).length)), (2, .long v), (1, .int b), (0, .ref 32)] [] h Po) : ∀ (m i : Nat) (qb : Nat → Int32) (qv : Nat → Int64) (h : mm_H), m + i = (sQ S).length → hM S n X (wq w qb qv) h → (∀ j e, (sQ S)[j]? = some e → (j < i → qb j = e.1 ∧ qv j = e.2) ∧ (i ≤ j → qb (j + 1) = e.1 ∧ qv (j + 1) = e.2)) → fr AM h0 h → mW none F mX4_all 45 [(4, .int (nI i)), (2, .long v), (1, .int b), (0, .ref 32)] [] h Po := by
  intro m
  induction m with
  | zero =>
    intro i qb qv h hmi hm hq hf
    obtain rfl : i = (sQ S).length := by omega
    refine w_iload (q := 47) aX4_all_45 rfl rfl ?_
    refine w_aload_n (q := 48) aX4_all_47 rfl rfl ?_
    refine w_get (q := 51) aX4_all_48 f_4_147 (hm 32 (by decide) (by decide)) rfl rfl ?_
    refine w_ic_ge (t := 92) (q := 54) aX4_all_51 (by decide) rfl (fun c51 => ?_) (fun c51 => ?_)
    · exact K qb qv h hm (fun j e he => (hq j e he).1 (List.getElem?_eq_some_iff.mp he).1) hf
    · exact absurd (nI_le (Nat.le_refl _) (by omega)) c51
  | succ m ih =>
    intro i qb qv h hmi hm hq hf
    refine w_iload (q := 47) aX4_all_45 rfl rfl ?_
    refine w_aload_n (q := 48) aX4_all_47 rfl rfl ?_
    refine w_get (q := 51) aX4_all_48 f_4_147 (hm 32 (by decide) (by decide)) rfl rfl ?_
    refine w_ic_ge (t := 92) (q := 54) aX4_all_51 (by decide) rfl (fun c51 => ?_) (fun c51 => ?_)
    · exact absurd c51 (nI_ge (by omega) (by omega))
    · refine w_aload_n (q := 55) aX4_all_54 rfl rfl ?_
      refine w_get (q := 58) aX4_all_55 f_4_50 (hm 32 (by decide) (by decide)) rfl rfl ?_
      refine w_iload (q := 60) aX4_all_58 rfl rfl ?_
      refine w_aload_n (q := 61) aX4_all_60 rfl rfl ?_
      refine w_get (q := 64) aX4_all_61 f_4_50 (hm 32 (by decide) (by decide)) rfl rfl ?_
      refine w_iload (q := 66) aX4_all_64 rfl rfl ?_
      refine w_iconst (v := 1) (q := 67) aX4_all_66 rfl rfl ?_
      refine w_iadd (q := 68) aX4_all_67 rfl ?_
      rw [nI_1]
      refine w_iald (q := 69) aX4_all_68 (by decide) (hm 46 (by decide) (by decide)) (mm_ix_at (n := i + 1) rfl (by omega) (rg_at (by omega))) rfl ?_
      refine w_iast (q := 70) (n := i) (vs' := _) aX4_all_69 (hm 46 (by decide) (by decide)) (rfl) (by rw [rg_len]; omega) (by rw [rg_len]; omega) (rg_set _ _ _ _) rfl ?_
      refine w_aload_n (q := 71) aX4_all_70 rfl rfl ?_
      refine w_get (q := 74) aX4_all_71 f_4_53 ((up_n (by decide)).trans (hm 32 (by decide) (by decide))) rfl rfl ?_
      refine w_iload (q := 76) aX4_all_74 rfl rfl ?_
      refine w_aload_n (q := 77) aX4_all_76 rfl rfl ?_
      refine w_get (q := 80) aX4_all_77 f_4_53 ((up_n (by decide)).trans (hm 32 (by decide) (by decide))) rfl rfl ?_
      refine w_iload (q := 82) aX4_all_80 rfl rfl ?_
      refine w_iconst (v := 1) (q := 83) aX4_all_82 rfl rfl ?_
      refine w_iadd (q := 84) aX4_all_83 rfl ?_
      rw [nI_1]
      refine w_lald (q := 85) aX4_all_84 ((up_n (by decide)).trans (hm 47 (by decide) (by decide))) (mm_ix_at (n := i + 1) rfl (by omega) (rg_at (by omega))) rfl ?_
      refine w_last (q := 86) (n := i) (vs' := _) aX4_all_85 ((up_n (by decide)).trans (hm 47 (by decide) (by decide))) (rfl) (by rw [rg_len]; omega) (by rw [rg_len]; omega) (rg_set _ _ _ _) rfl ?_
      refine w_iinc (q := 89) (ls' := [(4, _), (2, _), (1, _), (0, _)]) aX4_all_86 rfl rfl (by decide) rfl rfl ?_
      refine w_goto (t := 45) aX4_all_89 (by decide) ?_
      rw [show nI i + Int32.ofInt 1 = nI (i + 1) from nI_1 i]
      have e46 : fu (fun j => Value.int (qb j)) i (.int (qb (i + 1))) = fun j => Value.int (fu qb i (qb (i + 1)) j) := fu_map Value.int _ _ _
      have e47 : fu (fun j => Value.long (qv j)) i (.long (qv (i + 1))) = fun j => Value.long (fu qv i (qv (i + 1)) j) := fu_map Value.long _ _ _
      refine ih (i + 1) (fu qb i (qb (i + 1))) (fu qv i (qv (i + 1))) _ (by omega) ?_ (fun j e he => ⟨fun hj => ?_, fun hj => ?_⟩) ((hf.up (AM_l (by omega))).up (AM_l (by omega)))
      · intro q h1 h2
        rcases q23 q h1 h2 with rfl | rfl | rfl | rfl | rfl | rfl | rfl | rfl | rfl | rfl | rfl | rfl | rfl | rfl | rfl | rfl | rfl | rfl | rfl | rfl | rfl | rfl | rfl <;> first | exact hm _ h1 h2 | exact congrArg (fun z => some ((5 : Nat), rg 20 z)) e46 | exact congrArg (fun z => some ((6 : Nat), rg 20 z)) e47 |  rfl
      · by_cases e9 : j = i
        · subst e9
          rw [fu_s, fu_s]
          exact (hq j e he).2 (Nat.le_refl _)
        · rw [fu_n e9, fu_n e9]
          exact (hq j e he).1 (by omega)
      · rw [fu_n (by omega), fu_n (by omega)]
        exact (hq j e he).2 (by omega)
theorem Iv.popQ {N : Nat} {S : St} {q : Int32 × Int64} {qs : List (Int32 × Int64)} (h : Iv N S []) (e : sQ S = q :: qs) : Iv N (uQ S qs) [] := ⟨⟨h.1.1, h.1.2.1, h.1.2.2.1, h.1.2.2.2.1, fun z hz => h.1.2.2.2.2.1 z (by rw [e]; exact List.mem_cons_of_mem _ hz), h.1.2.2.2.2.2⟩, h.2.1, h.2.2⟩
theorem Iv.rung {N : Nat} {S : St} {k : Nat} {v : Int64} (h : Iv N S []) : Iv N (m_ring (m_perf 201) S k v).2 [] := h.go (Go.ring (PfOk.perf 201) h.1) ((PfW.perf 201).ring S k v).2.2
theorem m_drain_e {pf : Pf} {m : Nat} {e : Int32} {S : St} (he : ¬ e = 0) : m_drain pf m e S = (e, S) := by
  cases m with
  | zero => rfl
  | succ m =>
    unfold m_drain
    rw [if_neg he]
theorem m_drain_n {pf : Pf} {m : Nat} {S : St} (hq : sQ S = []) : m_drain pf m 0 S = (0, S) := by
  cases m with
  | zero => rfl
  | succ m =>
    unfold m_drain
    rw [if_pos rfl, hq]
theorem m_drain_c {pf : Pf} {m : Nat} {S : St} {q : Int32 × Int64} {qs : List (Int32 × Int64)} (hq : sQ S = q :: qs) : m_drain pf (m + 1) 0 S = m_drain pf m (m_ring pf (uQ S qs) q.1.toNatClampNeg q.2).1 (m_ring pf (uQ S qs) q.1.toNatClampNeg q.2).2 := by
  show (if (0 : Int32) = 0 then _ else _) = _
  rw [if_pos rfl, hq]
def aP (q : Int32 × St) (h : mm_H) : Option Value → mm_H → Prop := fun r h' => r = some (.int q.1) ∧ (∃ X, RM q.2 [] X h') ∧ fr AM h h'
theorem l_all {F N : Nat} {h0 : mm_H} : ∀ (m : Nat) (e : Int32) (S : St) (u : Int64) (h : mm_H), er e → ¬ e = 7 → Iv N S [] → (sQ S).length + 200 ≤ m + sS S → RM S [] (e, 0, -1, u) h → fr AM h0 h → mW none (F + 5) mX4_all 4 [(0, .ref 32)] [] h (aP (m_answer (m_drain (m_perf 201) m e S)) h0) := by
  intro m
  induction m with
  | zero =>
    intro e S u h he e7 hI hq hR hf
    have hs := hI.1.2.2.2.2.2.2
    have hqn : sQ S = [] := List.length_eq_zero_iff.mp (by omega)
    have hR0 := hR
    obtain ⟨w, hm, r1, r2, r3, r4⟩ := hR
    by_cases e0 : e = 0
    · subst e0
      rw [m_drain_n hqn]
      unfold m_answer
      rw [if_pos rfl]
      refine w_aload_n (q := 5) aX4_all_4 rfl rfl ?_
      refine w_get (q := 8) aX4_all_5 f_4_126 (hm 32 (by decide) (by decide)) rfl rfl ?_
      refine w_if_ne (t := 105) (q := 11) aX4_all_8 (by decide) rfl (fun c8 => ?_) (fun c8 => ?_)
      · exact absurd rfl c8
      · refine w_aload_n (q := 12) aX4_all_11 rfl rfl ?_
        refine w_get (q := 15) aX4_all_12 f_4_147 (hm 32 (by decide) (by decide)) rfl rfl ?_
        refine w_if_le (t := 105) (q := 18) aX4_all_15 (by decide) rfl (fun c15 => ?_) (fun c15 => ?_)
        · refine w_aload_n (q := 106) aX4_all_105 rfl rfl ?_
          refine w_get (q := 109) aX4_all_106 f_4_126 (hm 32 (by decide) (by decide)) rfl rfl ?_
          refine w_if_ne (t := 117) (q := 112) aX4_all_109 (by decide) rfl (fun c109 => ?_) (fun c109 => ?_)
          · exact absurd rfl c109
          · refine w_aload_n (q := 113) aX4_all_112 rfl rfl ?_
            refine w_get (q := 116) aX4_all_113 f_4_140 (hm 32 (by decide) (by decide)) rfl rfl ?_
            refine w_iret aX4_all_116 rfl ?_
            exact ⟨rfl, ⟨_, hR0⟩, hf⟩
        · exact absurd (by show nI (sQ S).length ≤ 0; rw [hqn]; decide) c15
    · rw [m_drain_e e0]
      unfold m_answer
      rw [if_neg (show ¬ (e, S).1 = 0 from e0)]
      refine w_aload_n (q := 5) aX4_all_4 rfl rfl ?_
      refine w_get (q := 8) aX4_all_5 f_4_126 (hm 32 (by decide) (by decide)) rfl rfl ?_
      refine w_if_ne (t := 105) (q := 11) aX4_all_8 (by decide) rfl (fun c8 => ?_) (fun c8 => ?_)
      · refine w_aload_n (q := 106) aX4_all_105 rfl rfl ?_
        refine w_get (q := 109) aX4_all_106 f_4_126 (hm 32 (by decide) (by decide)) rfl rfl ?_
        refine w_if_ne (t := 117) (q := 112) aX4_all_109 (by decide) rfl (fun c109 => ?_) (fun c109 => ?_)
        · refine w_aload_n (q := 118) aX4_all_117 rfl rfl ?_
          refine w_get (q := 121) aX4_all_118 f_4_74 (hm 32 (by decide) (by decide)) rfl rfl ?_
          refine w_iconst (v := 4) (q := 122) aX4_all_121 rfl rfl ?_
          refine w_dup2 (q := 123) aX4_all_122 ⟨rfl, rfl⟩ rfl ?_
          refine w_iald (q := 124) aX4_all_123 (by decide) (hm 54 (by decide) (by decide)) (mm_ix_at (n := 4) rfl (by omega) (rg_at (by omega))) rfl ?_
          refine w_iconst (v := 1) (q := 125) aX4_all_124 rfl rfl ?_
          refine w_iadd (q := 126) aX4_all_125 rfl ?_
          refine w_iast (q := 127) (n := 4) (vs' := _) aX4_all_126 (hm 54 (by decide) (by decide)) (rfl) (by rw [rg_len]; omega) (by rw [rg_len]; omega) (rg_set _ _ _ _) rfl ?_
          refine w_aload_n (q := 128) aX4_all_127 rfl rfl ?_
          refine w_get (q := 131) aX4_all_128 f_4_74 ((up_n (by decide)).trans (hm 32 (by decide) (by decide))) rfl rfl ?_
          refine w_bipush (v := 9) (q := 133) aX4_all_131 rfl rfl ?_
          refine w_dup2 (q := 134) aX4_all_133 ⟨rfl, rfl⟩ rfl ?_
          refine w_iald (q := 135) aX4_all_134 (by decide) (up_s _ _ _) (mm_ix_at (n := 9) rfl (by omega) (rg_at (by omega))) rfl ?_
          refine w_iconst (v := 1) (q := 136) aX4_all_135 rfl rfl ?_
          refine w_iadd (q := 137) aX4_all_136 rfl ?_
          refine w_iast (q := 138) (n := 9) (vs' := _) aX4_all_137 (up_s _ _ _) (rfl) (by rw [rg_len]; omega) (by rw [rg_len]; omega) (rg_set _ _ _ _) rfl ?_
          refine w_aload_n (q := 139) aX4_all_138 rfl rfl ?_
          refine w_get (q := 142) aX4_all_139 f_4_74 ((up_n (by decide)).trans ((up_n (by decide)).trans (hm 32 (by decide) (by decide)))) rfl rfl ?_
          refine w_bipush (v := 8) (q := 144) aX4_all_142 rfl rfl ?_
          refine w_aload_n (q := 145) aX4_all_144 rfl rfl ?_
          refine w_get (q := 148) aX4_all_145 f_4_126 ((up_n (by decide)).trans ((up_n (by decide)).trans (hm 32 (by decide) (by decide)))) rfl rfl ?_
          refine w_iast (q := 149) (n := 8) (vs' := _) aX4_all_148 (up_s _ _ _) (rfl) (by rw [rg_len]; omega) (by rw [rg_len]; omega) (rg_set _ _ _ _) rfl ?_
          refine w_bipush (v := -10) (q := 151) aX4_all_149 rfl rfl ?_
          refine w_aload_n (q := 152) aX4_all_151 rfl rfl ?_
          refine w_get (q := 155) aX4_all_152 f_4_126 ((up_n (by decide)).trans ((up_n (by decide)).trans ((up_n (by decide)).trans (hm 32 (by decide) (by decide))))) rfl rfl ?_
          refine w_isub (q := 156) aX4_all_155 rfl ?_
          refine w_iret aX4_all_156 rfl ?_
          have a2 : fu (fu (fu (fun j => Value.int (if j = 0 then nI (sM S) else sC S j)) 4 (.int (sC S 4 + 1))) 9 (.int (sC S 9 + 1))) 8 (.int e) = fun j => Value.int (if j = 0 then nI (sM S) else fu (inc (inc (sC S) 4) 9) 8 e j) := by
            rw [f54 (by decide)]
            have := f54 (S := uC S (inc (sC S) 4)) (c := 9) (x := sC S 9 + 1) (by decide)
            exact (congrArg (fun z => fu z 8 (Value.int e)) this).trans (f54 (S := uC S (inc (inc (sC S) 4) 9)) (by decide))
          refine ⟨rfl, ⟨(e, 0, -1, u), w, ?_, r1, r2, r3, r4⟩, ((hf.up (AM_l (by omega))).up (AM_l (by omega))).up (AM_l (by omega))⟩
          intro q h1 h2
          rcases q23 q h1 h2 with rfl | rfl | rfl | rfl | rfl | rfl | rfl | rfl | rfl | rfl | rfl | rfl | rfl | rfl | rfl | rfl | rfl | rfl | rfl | rfl | rfl | rfl | rfl <;> first | exact hm _ h1 h2 | exact congrArg (fun z => some ((5 : Nat), rg 10 z)) a2 |  rfl
        · exact absurd c109 e0
      · exact absurd c8 e0
  | succ m ih =>
    intro e S u h he e7 hI hq hR hf
    have hs := hI.1.2.2.2.2.2.2
    have hR0 := hR
    obtain ⟨w, hm, r1, r2, r3, r4⟩ := hR
    by_cases e0 : e = 0
    · subst e0
      cases hqq : sQ S with
      | nil =>
        rw [m_drain_n hqq]
        unfold m_answer
        rw [if_pos rfl]
        refine w_aload_n (q := 5) aX4_all_4 rfl rfl ?_
        refine w_get (q := 8) aX4_all_5 f_4_126 (hm 32 (by decide) (by decide)) rfl rfl ?_
        refine w_if_ne (t := 105) (q := 11) aX4_all_8 (by decide) rfl (fun c8 => ?_) (fun c8 => ?_)
        · exact absurd rfl c8
        · refine w_aload_n (q := 12) aX4_all_11 rfl rfl ?_
          refine w_get (q := 15) aX4_all_12 f_4_147 (hm 32 (by decide) (by decide)) rfl rfl ?_
          refine w_if_le (t := 105) (q := 18) aX4_all_15 (by decide) rfl (fun c15 => ?_) (fun c15 => ?_)
          · refine w_aload_n (q := 106) aX4_all_105 rfl rfl ?_
            refine w_get (q := 109) aX4_all_106 f_4_126 (hm 32 (by decide) (by decide)) rfl rfl ?_
            refine w_if_ne (t := 117) (q := 112) aX4_all_109 (by decide) rfl (fun c109 => ?_) (fun c109 => ?_)
            · exact absurd rfl c109
            · refine w_aload_n (q := 113) aX4_all_112 rfl rfl ?_
              refine w_get (q := 116) aX4_all_113 f_4_140 (hm 32 (by decide) (by decide)) rfl rfl ?_
              refine w_iret aX4_all_116 rfl ?_
              exact ⟨rfl, ⟨_, hR0⟩, hf⟩
          · exact absurd (by show nI (sQ S).length ≤ 0; rw [hqq]; decide) c15
      | cons q qs =>
        rw [m_drain_c hqq]
        have hql : (sQ S).length = qs.length + 1 := by rw [hqq]; rfl
        have hq20 := r3.1
        have hb0 := r3.2 0 q (by rw [hqq]; rfl)
        obtain ⟨i, hi, ei⟩ := rN_of (by omega) (hI.1.2.2.2.2.1 q (by rw [hqq]; exact List.mem_cons_self))
        rw [ei, nI_clamp (by omega)]
        have hI1 := hI.popQ hqq
        have hI2 := hI1.rung (k := i) (v := q.2)
        have her := (PfW.perf 201).ring (uQ S qs) i q.2
        have hgw := her.2.2.2
        have hgw2 : (sQ (m_ring (m_perf 201) (uQ S qs) i q.2).2).length + sS S ≤ qs.length + sS (m_ring (m_perf 201) (uQ S qs) i q.2).2 := hgw
        refine w_aload_n (q := 5) aX4_all_4 rfl rfl ?_
        refine w_get (q := 8) aX4_all_5 f_4_126 (hm 32 (by decide) (by decide)) rfl rfl ?_
        refine w_if_ne (t := 105) (q := 11) aX4_all_8 (by decide) rfl (fun c8 => ?_) (fun c8 => ?_)
        · exact absurd rfl c8
        · refine w_aload_n (q := 12) aX4_all_11 rfl rfl ?_
          refine w_get (q := 15) aX4_all_12 f_4_147 (hm 32 (by decide) (by decide)) rfl rfl ?_
          refine w_if_le (t := 105) (q := 18) aX4_all_15 (by decide) rfl (fun c15 => ?_) (fun c15 => ?_)
          · exact absurd c15 (by show ¬ nI (sQ S).length ≤ 0; rw [hql]; exact nI_le0 (by omega))
          · refine w_aload_n (q := 19) aX4_all_18 rfl rfl ?_
            refine w_get (q := 22) aX4_all_19 f_4_50 (hm 32 (by decide) (by decide)) rfl rfl ?_
            refine w_iconst (v := 0) (q := 23) aX4_all_22 rfl rfl ?_
            refine w_iald (q := 24) aX4_all_23 (by decide) (hm 46 (by decide) (by decide)) (mm_ix_at (n := 0) rfl (by omega) (rg_at (by omega))) rfl ?_
            rw [hb0.1, ei]
            refine w_istore_n (q := 25) (ls' := [(1, _), (0, _)]) aX4_all_24 (by decide) rfl rfl ?_
            refine w_aload_n (q := 26) aX4_all_25 rfl rfl ?_
            refine w_get (q := 29) aX4_all_26 f_4_53 (hm 32 (by decide) (by decide)) rfl rfl ?_
            refine w_iconst (v := 0) (q := 30) aX4_all_29 rfl rfl ?_
            refine w_lald (q := 31) aX4_all_30 (hm 47 (by decide) (by decide)) (mm_ix_at (n := 0) rfl (by omega) (rg_at (by omega))) rfl ?_
            rw [hb0.2]
            refine w_lstore_n (q := 32) (ls' := [(2, _), (1, _), (0, _)]) aX4_all_31 (by decide) rfl rfl ?_
            refine w_aload_n (q := 33) aX4_all_32 rfl rfl ?_
            refine w_dup (q := 34) aX4_all_33 rfl rfl ?_
            refine w_get (q := 37) aX4_all_34 f_4_147 (hm 32 (by decide) (by decide)) rfl rfl ?_
            refine w_iconst (v := 1) (q := 38) aX4_all_37 rfl rfl ?_
            refine w_isub (q := 39) aX4_all_38 rfl ?_
            rw [hql, nI_pred]
            refine w_put (q := 42) (fs' := [_, _, _, _, _, _, _, _, _, _, _, _, _, _, _, _, _, _, _, _, _, _, _, _, _, _, _, _, _, _, _]) aX4_all_39 f_4_147 (hm 32 (by decide) (by decide)) (Nat.le_of_ble_eq_true rfl) rfl rfl (Or.inl rfl) rfl rfl ?_
            refine w_iconst (v := 0) (q := 43) aX4_all_42 rfl rfl ?_
            refine w_istore (q := 45) (ls' := [(4, _), (2, _), (1, _), (0, _)]) aX4_all_43 (by decide) rfl rfl ?_
            refine m_qs (S := uQ S qs) (n := 0) (X := (0, 0, -1, u)) (w := w) (h0 := h0) (by show qs.length < 20; omega) (fun qb qv h2 hm2 hq2 hf2 => ?_) qs.length 0 w.2.2.1 w.2.2.2.1 _ rfl ?_ (fun j e he => ⟨fun z => absurd z (Nat.not_lt_zero _), fun _ => r3.2 (j + 1) e (by rw [hqq]; exact he)⟩) (hf.up (AM_l (by omega)))
            · skip
              refine w_aload_n (q := 93) aX4_all_92 rfl rfl ?_
              refine w_iload_n (q := 94) aX4_all_93 rfl rfl ?_
              refine w_lload_n (q := 95) aX4_all_94 rfl rfl ?_
              refine w_callV aX4_all_95 t_4_143 (this_at rfl (hm2 32 (by decide) (by decide))) (rfl) (d_rings (S := uQ S qs) (P := []) (u := u) (by decide) hi hI1.1.2.2.2.2.2.1 ⟨wq w qb qv, hm2, r1, r2, ⟨by show qs.length ≤ 20; omega, hq2⟩, fun p f hp => by cases hp⟩) (fun r95 h95 hp => ?_)
              obtain ⟨rfl, hR3, hf3⟩ := hp
              have h32 : ∃ c, h95.2.2 32 = some (4, c) := by
                obtain ⟨w3, hm3, -⟩ := hR3
                exact ⟨_, hm3 32 (by decide) (by decide)⟩
              obtain ⟨c32, h32⟩ := h32
              refine w_aload_n (q := 99) aX4_all_98 rfl rfl ?_
              refine w_callV aX4_all_99 t_4_172 (this_at rfl h32) (rfl) (W_ring hi hI1 hR3) (fun r99 h99 hp => ?_)
              obtain ⟨rfl, ⟨u4, hR4⟩, hf4⟩ := hp
              refine w_goto (t := 4) aX4_all_102 (by decide) ?_
              exact (ih _ _ u4 h99 her.1 her.2.1 hI2 (by omega) hR4 ((hf2.tr hf3).tr hf4)).ls (Rl.cons Rl.nil rfl)
            · intro q h1 h2
              rcases q23 q h1 h2 with rfl | rfl | rfl | rfl | rfl | rfl | rfl | rfl | rfl | rfl | rfl | rfl | rfl | rfl | rfl | rfl | rfl | rfl | rfl | rfl | rfl | rfl | rfl <;> first | exact hm _ h1 h2 |  rfl
    · rw [m_drain_e e0]
      unfold m_answer
      rw [if_neg (show ¬ (e, S).1 = 0 from e0)]
      refine w_aload_n (q := 5) aX4_all_4 rfl rfl ?_
      refine w_get (q := 8) aX4_all_5 f_4_126 (hm 32 (by decide) (by decide)) rfl rfl ?_
      refine w_if_ne (t := 105) (q := 11) aX4_all_8 (by decide) rfl (fun c8 => ?_) (fun c8 => ?_)
      · refine w_aload_n (q := 106) aX4_all_105 rfl rfl ?_
        refine w_get (q := 109) aX4_all_106 f_4_126 (hm 32 (by decide) (by decide)) rfl rfl ?_
        refine w_if_ne (t := 117) (q := 112) aX4_all_109 (by decide) rfl (fun c109 => ?_) (fun c109 => ?_)
        · refine w_aload_n (q := 118) aX4_all_117 rfl rfl ?_
          refine w_get (q := 121) aX4_all_118 f_4_74 (hm 32 (by decide) (by decide)) rfl rfl ?_
          refine w_iconst (v := 4) (q := 122) aX4_all_121 rfl rfl ?_
          refine w_dup2 (q := 123) aX4_all_122 ⟨rfl, rfl⟩ rfl ?_
          refine w_iald (q := 124) aX4_all_123 (by decide) (hm 54 (by decide) (by decide)) (mm_ix_at (n := 4) rfl (by omega) (rg_at (by omega))) rfl ?_
          refine w_iconst (v := 1) (q := 125) aX4_all_124 rfl rfl ?_
          refine w_iadd (q := 126) aX4_all_125 rfl ?_
          refine w_iast (q := 127) (n := 4) (vs' := _) aX4_all_126 (hm 54 (by decide) (by decide)) (rfl) (by rw [rg_len]; omega) (by rw [rg_len]; omega) (rg_set _ _ _ _) rfl ?_
          refine w_aload_n (q := 128) aX4_all_127 rfl rfl ?_
          refine w_get (q := 131) aX4_all_128 f_4_74 ((up_n (by decide)).trans (hm 32 (by decide) (by decide))) rfl rfl ?_
          refine w_bipush (v := 9) (q := 133) aX4_all_131 rfl rfl ?_
          refine w_dup2 (q := 134) aX4_all_133 ⟨rfl, rfl⟩ rfl ?_
          refine w_iald (q := 135) aX4_all_134 (by decide) (up_s _ _ _) (mm_ix_at (n := 9) rfl (by omega) (rg_at (by omega))) rfl ?_
          refine w_iconst (v := 1) (q := 136) aX4_all_135 rfl rfl ?_
          refine w_iadd (q := 137) aX4_all_136 rfl ?_
          refine w_iast (q := 138) (n := 9) (vs' := _) aX4_all_137 (up_s _ _ _) (rfl) (by rw [rg_len]; omega) (by rw [rg_len]; omega) (rg_set _ _ _ _) rfl ?_
          refine w_aload_n (q := 139) aX4_all_138 rfl rfl ?_
          refine w_get (q := 142) aX4_all_139 f_4_74 ((up_n (by decide)).trans ((up_n (by decide)).trans (hm 32 (by decide) (by decide)))) rfl rfl ?_
          refine w_bipush (v := 8) (q := 144) aX4_all_142 rfl rfl ?_
          refine w_aload_n (q := 145) aX4_all_144 rfl rfl ?_
          refine w_get (q := 148) aX4_all_145 f_4_126 ((up_n (by decide)).trans ((up_n (by decide)).trans (hm 32 (by decide) (by decide)))) rfl rfl ?_
          refine w_iast (q := 149) (n := 8) (vs' := _) aX4_all_148 (up_s _ _ _) (rfl) (by rw [rg_len]; omega) (by rw [rg_len]; omega) (rg_set _ _ _ _) rfl ?_
          refine w_bipush (v := -10) (q := 151) aX4_all_149 rfl rfl ?_
          refine w_aload_n (q := 152) aX4_all_151 rfl rfl ?_
          refine w_get (q := 155) aX4_all_152 f_4_126 ((up_n (by decide)).trans ((up_n (by decide)).trans ((up_n (by decide)).trans (hm 32 (by decide) (by decide))))) rfl rfl ?_
          refine w_isub (q := 156) aX4_all_155 rfl ?_
          refine w_iret aX4_all_156 rfl ?_
          have a2 : fu (fu (fu (fun j => Value.int (if j = 0 then nI (sM S) else sC S j)) 4 (.int (sC S 4 + 1))) 9 (.int (sC S 9 + 1))) 8 (.int e) = fun j => Value.int (if j = 0 then nI (sM S) else fu (inc (inc (sC S) 4) 9) 8 e j) := by
            rw [f54 (by decide)]
            have := f54 (S := uC S (inc (sC S) 4)) (c := 9) (x := sC S 9 + 1) (by decide)
            exact (congrArg (fun z => fu z 8 (Value.int e)) this).trans (f54 (S := uC S (inc (inc (sC S) 4) 9)) (by decide))
          refine ⟨rfl, ⟨(e, 0, -1, u), w, ?_, r1, r2, r3, r4⟩, ((hf.up (AM_l (by omega))).up (AM_l (by omega))).up (AM_l (by omega))⟩
          intro q h1 h2
          rcases q23 q h1 h2 with rfl | rfl | rfl | rfl | rfl | rfl | rfl | rfl | rfl | rfl | rfl | rfl | rfl | rfl | rfl | rfl | rfl | rfl | rfl | rfl | rfl | rfl | rfl <;> first | exact hm _ h1 h2 | exact congrArg (fun z => some ((5 : Nat), rg 10 z)) a2 |  rfl
        · exact absurd c109 e0
      · exact absurd c8 e0
