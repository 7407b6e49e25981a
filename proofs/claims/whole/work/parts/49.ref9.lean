/-- what the failure e meets on the pile, its top first -/
def r_fails : List Fr → St → Int32 → Int32 × St × List Fr
  | [], S, e => (e, S, [])
  | f :: Q, S, e => if m_met e ∧ f.1 = 0 ∧ sW S f.2.1.toNatClampNeg = 1 then (0, uC S (inc (inc (sC S) 3) 9), f :: Q)
    else if m_met e ∧ f.1 = 1 then (0, uC (uT S (fu (sT S) f.2.1.toNatClampNeg (sT S f.2.1.toNatClampNeg + 1))) (inc (inc (sC S) 5) 9), Q)
    else r_fails Q (if f.1 = 0 then uD S (sD S - 1) else S) e
def okF (m : Nat) (f : Fr) : Prop := (f.1 = 0 → ∃ k, k < 6 ∧ f.2.1 = nI k ∧ ∀ x ∈ f.2.2.2.1, rN m x) ∧ (f.1 = 1 → ∃ t, t < 8 ∧ f.2.1 = nI t) ∧ (f.1 = 2 → ∃ o : Option Nat, f.2.1 = oI o ∧ ∀ k, o = some k → k < m) ∧ (f.1 = 0 ∨ f.1 = 1 ∨ f.1 = 2)
/-- how many of the pile ring -/
def nR : List Fr → Nat
  | [] => 0
  | f :: Q => if f.1 = 0 then nR Q + 1 else nR Q
theorem nI_le0 {n : Nat} (h : n + 1 < 2 ^ 31) : ¬ nI (n + 1) ≤ 0 := fun z => by
  have := (nI_leI (a := n + 1) (b := 0) (by omega) (by omega)).mp z
  omega
theorem e_fail {e : Int32} (he : e = 1 ∨ e = 2 ∨ e = 3 ∨ e = 4 ∨ e = 5 ∨ e = 6) : (m_met e ↔ ¬ (e = 5 ∨ e = 6)) ∧ ¬ e = 0 := by
  rcases he with rfl | rfl | rfl | rfl | rfl | rfl <;> decide
theorem x_fails {F : Nat} {E : Int32} {u : Int64} {h0 h : mm_H} {S : St} {P : List Fr} (hR : RM S P (0, 0, -1, u) h) (hf : fr AM h0 h) : mW none F mX4_fails 23 [(1, .int E), (0, .ref 32)] [] h (fun r h' => r = none ∧ RM S P (0, 0, -1, u) h' ∧ fr AM h0 h') := by
  have hR0 := hR
  obtain ⟨w, hm, r1, r2, r3, r4⟩ := hR
  refine w_aload_n (q := 24) aX4_fails_23 rfl rfl ?_
  refine w_get (q := 27) aX4_fails_24 f_4_120 (hm 32 (by decide) (by decide)) rfl rfl ?_
  refine w_if_le (t := 192) (q := 30) aX4_fails_27 (by decide) rfl (fun c27 => ?_) (fun c27 => ?_)
  · refine w_vret aX4_fails_192 rfl ?_
    exact ⟨rfl, hR0, hf⟩
  · refine w_aload_n (q := 31) aX4_fails_30 rfl rfl ?_
    refine w_get (q := 34) aX4_fails_31 f_4_126 (hm 32 (by decide) (by decide)) rfl rfl ?_
    refine w_if_eq (t := 192) (q := 37) aX4_fails_34 (by decide) rfl (fun c34 => ?_) (fun c34 => ?_)
    · refine w_vret aX4_fails_192 rfl ?_
      exact ⟨rfl, hR0, hf⟩
    · exact absurd rfl c34
set_option maxHeartbeats 1000000 in
theorem m_fails {F : Nat} {e : Int32} {u : Int64} {h0 : mm_H} {m : Nat} (he : e = 1 ∨ e = 2 ∨ e = 3 ∨ e = 4 ∨ e = 5 ∨ e = 6) : ∀ (Q : List Fr) (S : St) (h : mm_H), Q.length ≤ 600 → (∀ f ∈ Q, okF m f) → nR Q ≤ sD S → RM S Q.reverse (e, 0, -1, u) h → fr AM h0 h → mW none F mX4_fails 23 [(1, .int (bz (e = 5 ∨ e = 6))), (0, .ref 32)] [] h (fun r h' => r = none ∧ RM (r_fails Q S e).2.1 (r_fails Q S e).2.2.reverse ((r_fails Q S e).1, 0, -1, u) h' ∧ fr AM h0 h') := by
  obtain ⟨hmet, he0⟩ := e_fail he
  intro Q
  induction Q with
  | nil =>
    intro S h _ _ _ hR hf
    have hR0 := hR
    obtain ⟨w, hm, r1, r2, r3, r4⟩ := hR
    refine w_aload_n (q := 24) aX4_fails_23 rfl rfl ?_
    refine w_get (q := 27) aX4_fails_24 f_4_120 (hm 32 (by decide) (by decide)) rfl rfl ?_
    refine w_if_le (t := 192) (q := 30) aX4_fails_27 (by decide) rfl (fun c27 => ?_) (fun c27 => ?_)
    · refine w_vret aX4_fails_192 rfl ?_
      exact ⟨rfl, hR0, hf⟩
    · exact absurd (by decide) c27
  | cons f Q ih =>
    intro S h hlen hok hnr hR hf
    have hPl : Q.reverse.length = Q.length := List.length_reverse
    rw [List.reverse_cons] at hR
    generalize hP : Q.reverse = P at hR hPl
    have hlen2 : P.length < 600 := by have : (f :: Q).length = Q.length + 1 := rfl; omega
    have hR0 := hR
    obtain ⟨w, hm0, r1, r2, r3, r4⟩ := hR
    have hm : hM S (P.length + 1) (e, 0, -1, u) w h := by rw [List.length_append] at hm0; exact hm0
    obtain ⟨p1, p2, p3, p4⟩ := r4.top
    have r5 := r4.pop
    obtain ⟨k1, k2, k3, k4⟩ := hok f List.mem_cons_self
    unfold r_fails
    have t134 : ¬ (m_met e ∧ f.1 = 0 ∧ sW S f.2.1.toNatClampNeg = 1) → ∀ S2 h2, S2 = (if f.1 = 0 then uD S (sD S - 1) else S) → hM S2 P.length (e, 0, -1, u) w h2 → fr AM h0 h2 → mW none F mX4_fails 134 [(2, .int (nI P.length)), (1, .int (bz (e = 5 ∨ e = 6))), (0, .ref 32)] [] h2 (fun r h' => r = none ∧ RM (if m_met e ∧ f.1 = 0 ∧ sW S f.2.1.toNatClampNeg = 1 then (0, uC S (inc (inc (sC S) 3) 9), f :: Q) else if m_met e ∧ f.1 = 1 then (0, uC (uT S (fu (sT S) f.2.1.toNatClampNeg (sT S f.2.1.toNatClampNeg + 1))) (inc (inc (sC S) 5) 9), Q) else r_fails Q (if f.1 = 0 then uD S (sD S - 1) else S) e).2.1 (if m_met e ∧ f.1 = 0 ∧ sW S f.2.1.toNatClampNeg = 1 then (0, uC S (inc (inc (sC S) 3) 9), f :: Q) else if m_met e ∧ f.1 = 1 then (0, uC (uT S (fu (sT S) f.2.1.toNatClampNeg (sT S f.2.1.toNatClampNeg + 1))) (inc (inc (sC S) 5) 9), Q) else r_fails Q (if f.1 = 0 then uD S (sD S - 1) else S) e).2.2.reverse ((if m_met e ∧ f.1 = 0 ∧ sW S f.2.1.toNatClampNeg = 1 then (0, uC S (inc (inc (sC S) 3) 9), f :: Q) else if m_met e ∧ f.1 = 1 then (0, uC (uT S (fu (sT S) f.2.1.toNatClampNeg (sT S f.2.1.toNatClampNeg + 1))) (inc (inc (sC S) 5) 9), Q) else r_fails Q (if f.1 = 0 then uD S (sD S - 1) else S) e).1, 0, -1, u) h' ∧ fr AM h0 h') := fun hn S2 h2 hS2 hm hf => by
      rw [if_neg hn]
      have go : ¬ (m_met e ∧ f.1 = 1) → mW none F mX4_fails 189 [(2, .int (nI P.length)), (1, .int (bz (e = 5 ∨ e = 6))), (0, .ref 32)] [] h2 (fun r h' => r = none ∧ RM (if m_met e ∧ f.1 = 1 then (0, uC (uT S (fu (sT S) f.2.1.toNatClampNeg (sT S f.2.1.toNatClampNeg + 1))) (inc (inc (sC S) 5) 9), Q) else r_fails Q (if f.1 = 0 then uD S (sD S - 1) else S) e).2.1 (if m_met e ∧ f.1 = 1 then (0, uC (uT S (fu (sT S) f.2.1.toNatClampNeg (sT S f.2.1.toNatClampNeg + 1))) (inc (inc (sC S) 5) 9), Q) else r_fails Q (if f.1 = 0 then uD S (sD S - 1) else S) e).2.2.reverse ((if m_met e ∧ f.1 = 1 then (0, uC (uT S (fu (sT S) f.2.1.toNatClampNeg (sT S f.2.1.toNatClampNeg + 1))) (inc (inc (sC S) 5) 9), Q) else r_fails Q (if f.1 = 0 then uD S (sD S - 1) else S) e).1, 0, -1, u) h' ∧ fr AM h0 h') := fun hn2 => by
        rw [if_neg hn2, ← hS2]
        refine w_goto (t := 23) aX4_fails_189 (by decide) ?_
        refine (ih S2 h2 (by have : (f :: Q).length = Q.length + 1 := rfl; omega) (fun g hg => hok g (List.mem_cons_of_mem _ hg)) ?_ ?_ hf).ls (Rl.cons (Rl.cons Rl.nil rfl) rfl)
        · unfold nR at hnr
          by_cases e0 : f.1 = 0
          · rw [if_pos e0] at hS2 hnr
            subst hS2
            show nR Q ≤ sD S - 1
            omega
          · rw [if_neg e0] at hS2 hnr
            subst hS2
            exact hnr
        · rw [hP]
          refine ⟨w, hm, ?_, ?_, ?_, r5⟩
          · by_cases e0 : f.1 = 0
            · rw [if_pos e0] at hS2; subst hS2; exact r1
            · rw [if_neg e0] at hS2; subst hS2; exact r1
          · by_cases e0 : f.1 = 0
            · rw [if_pos e0] at hS2; subst hS2; exact r2
            · rw [if_neg e0] at hS2; subst hS2; exact r2
          · by_cases e0 : f.1 = 0
            · rw [if_pos e0] at hS2; subst hS2; exact r3
            · rw [if_neg e0] at hS2; subst hS2; exact r3
      refine w_iload_n (q := 135) aX4_fails_134 rfl rfl ?_
      refine w_if_ne (t := 189) (q := 138) aX4_fails_135 (by decide) rfl (fun c135 => ?_) (fun c135 => ?_)
      · exact go (fun z => hmet.mp z.1 (bz_ne0 c135))
      · refine w_aload_n (q := 139) aX4_fails_138 rfl rfl ?_
        refine w_get (q := 142) aX4_fails_139 f_4_56 (hm 32 (by decide) (by decide)) rfl rfl ?_
        refine w_iload_n (q := 143) aX4_fails_142 rfl rfl ?_
        refine w_iald (q := 144) aX4_fails_143 (by decide) (hm 48 (by decide) (by decide)) (mm_ix_at (n := P.length) rfl (by omega) (rg_at (by omega))) rfl ?_
        rw [p1]
        refine w_iconst (v := 1) (q := 145) aX4_fails_144 rfl rfl ?_
        refine w_ic_ne (t := 189) (q := 148) aX4_fails_145 (by decide) rfl (fun c145 => ?_) (fun c145 => ?_)
        · exact go (fun z => c145 z.2)
        · have hme := hmet.mpr (bz_eq0 c135)
          have f1 : f.1 = 1 := c145
          rw [if_pos ⟨hme, f1⟩]
          have hS3 : S2 = S := by rw [hS2, if_neg (by rw [f1]; decide)]
          rw [hS3] at hm
          obtain ⟨t, ht, et⟩ := k2 f1
          rw [et, nI_clamp (by omega)]
          rw [et] at p2
          refine w_aload_n (q := 149) aX4_fails_148 rfl rfl ?_
          refine w_get (q := 152) aX4_fails_149 f_4_7 (hm 32 (by decide) (by decide)) rfl rfl ?_
          refine w_aload_n (q := 153) aX4_fails_152 rfl rfl ?_
          refine w_get (q := 156) aX4_fails_153 f_4_59 (hm 32 (by decide) (by decide)) rfl rfl ?_
          refine w_iload_n (q := 157) aX4_fails_156 rfl rfl ?_
          refine w_iald (q := 158) aX4_fails_157 (by decide) (hm 49 (by decide) (by decide)) (mm_ix_at (n := P.length) rfl (by omega) (rg_at (by omega))) rfl ?_
          rw [p2]
          refine w_dup2 (q := 159) aX4_fails_158 ⟨rfl, rfl⟩ rfl ?_
          refine w_lald (q := 160) aX4_fails_159 (hm 33 (by decide) (by decide)) (mm_ix_at (n := t) rfl (by omega) (rg_at (by omega))) rfl ?_
          refine w_lconst (v := 1) (q := 161) aX4_fails_160 rfl rfl ?_
          refine w_ladd (q := 162) aX4_fails_161 rfl ?_
          refine w_last (q := 163) (n := t) (vs' := _) aX4_fails_162 (hm 33 (by decide) (by decide)) (rfl) (by rw [rg_len]; omega) (by rw [rg_len]; omega) (rg_set _ _ _ _) rfl ?_
          refine w_aload_n (q := 164) aX4_fails_163 rfl rfl ?_
          refine w_get (q := 167) aX4_fails_164 f_4_74 ((up_n (by decide)).trans (hm 32 (by decide) (by decide))) rfl rfl ?_
          refine w_iconst (v := 5) (q := 168) aX4_fails_167 rfl rfl ?_
          refine w_dup2 (q := 169) aX4_fails_168 ⟨rfl, rfl⟩ rfl ?_
          refine w_iald (q := 170) aX4_fails_169 (by decide) ((up_n (by decide)).trans (hm 54 (by decide) (by decide))) (mm_ix_at (n := 5) rfl (by omega) (rg_at (by omega))) rfl ?_
          refine w_iconst (v := 1) (q := 171) aX4_fails_170 rfl rfl ?_
          refine w_iadd (q := 172) aX4_fails_171 rfl ?_
          refine w_iast (q := 173) (n := 5) (vs' := _) aX4_fails_172 ((up_n (by decide)).trans (hm 54 (by decide) (by decide))) (rfl) (by rw [rg_len]; omega) (by rw [rg_len]; omega) (rg_set _ _ _ _) rfl ?_
          refine w_aload_n (q := 174) aX4_fails_173 rfl rfl ?_
          refine w_get (q := 177) aX4_fails_174 f_4_74 ((up_n (by decide)).trans ((up_n (by decide)).trans (hm 32 (by decide) (by decide)))) rfl rfl ?_
          refine w_bipush (v := 9) (q := 179) aX4_fails_177 rfl rfl ?_
          refine w_dup2 (q := 180) aX4_fails_179 ⟨rfl, rfl⟩ rfl ?_
          refine w_iald (q := 181) aX4_fails_180 (by decide) (up_s _ _ _) (mm_ix_at (n := 9) rfl (by omega) (rg_at (by omega))) rfl ?_
          refine w_iconst (v := 1) (q := 182) aX4_fails_181 rfl rfl ?_
          refine w_iadd (q := 183) aX4_fails_182 rfl ?_
          refine w_iast (q := 184) (n := 9) (vs' := _) aX4_fails_183 (up_s _ _ _) (rfl) (by rw [rg_len]; omega) (by rw [rg_len]; omega) (rg_set _ _ _ _) rfl ?_
          refine w_aload_n (q := 185) aX4_fails_184 rfl rfl ?_
          refine w_iconst (v := 0) (q := 186) aX4_fails_185 rfl rfl ?_
          refine w_put (q := 189) (fs' := [_, _, _, _, _, _, _, _, _, _, _, _, _, _, _, _, _, _, _, _, _, _, _, _, _, _, _, _, _, _, _]) aX4_fails_186 f_4_126 ((up_n (by decide)).trans ((up_n (by decide)).trans ((up_n (by decide)).trans (hm 32 (by decide) (by decide))))) (Nat.le_of_ble_eq_true rfl) rfl rfl (Or.inl rfl) rfl rfl ?_
          refine w_goto (t := 23) aX4_fails_189 (by decide) ?_
          refine (x_fails (S := uC (uT S (fu (sT S) t (sT S t + 1))) (inc (inc (sC S) 5) 9)) (P := Q.reverse) (u := u) ⟨w, ?_, r1, r2, r3, by rw [hP]; exact r5⟩ ((((hf.up (AM_l (by omega))).up (AM_l (by omega))).up (AM_l (by omega))).up (AM_l (by omega)))).ls (Rl.cons (Rl.cons Rl.nil rfl) rfl)
          rw [hP]
          have a1 : fu (fun j => Value.long (sT S j)) t (.long (sT S t + 1)) = fun j => Value.long (fu (sT S) t (sT S t + 1) j) := fu_map Value.long _ _ _
          have a2 : fu (fu (fun j => Value.int (if j = 0 then nI (sM S) else sC S j)) 5 (.int (sC S 5 + 1))) 9 (.int (sC S 9 + 1)) = fun j => Value.int (if j = 0 then nI (sM S) else inc (inc (sC S) 5) 9 j) := by
            rw [f54 (by decide)]
            exact f54 (S := uC S (inc (sC S) 5)) (by decide)
          intro q h1 h2
          rcases q23 q h1 h2 with rfl | rfl | rfl | rfl | rfl | rfl | rfl | rfl | rfl | rfl | rfl | rfl | rfl | rfl | rfl | rfl | rfl | rfl | rfl | rfl | rfl | rfl | rfl <;> first | exact hm _ h1 h2 | exact congrArg (fun z => some ((6 : Nat), rg 8 z)) a1 | exact congrArg (fun z => some ((5 : Nat), rg 10 z)) a2 |  rfl
    have t101 : ¬ (m_met e ∧ f.1 = 0 ∧ sW S f.2.1.toNatClampNeg = 1) → mW none F mX4_fails 101 [(2, .int (nI P.length)), (1, .int (bz (e = 5 ∨ e = 6))), (0, .ref 32)] [] h (fun r h' => r = none ∧ RM (if m_met e ∧ f.1 = 0 ∧ sW S f.2.1.toNatClampNeg = 1 then (0, uC S (inc (inc (sC S) 3) 9), f :: Q) else if m_met e ∧ f.1 = 1 then (0, uC (uT S (fu (sT S) f.2.1.toNatClampNeg (sT S f.2.1.toNatClampNeg + 1))) (inc (inc (sC S) 5) 9), Q) else r_fails Q (if f.1 = 0 then uD S (sD S - 1) else S) e).2.1 (if m_met e ∧ f.1 = 0 ∧ sW S f.2.1.toNatClampNeg = 1 then (0, uC S (inc (inc (sC S) 3) 9), f :: Q) else if m_met e ∧ f.1 = 1 then (0, uC (uT S (fu (sT S) f.2.1.toNatClampNeg (sT S f.2.1.toNatClampNeg + 1))) (inc (inc (sC S) 5) 9), Q) else r_fails Q (if f.1 = 0 then uD S (sD S - 1) else S) e).2.2.reverse ((if m_met e ∧ f.1 = 0 ∧ sW S f.2.1.toNatClampNeg = 1 then (0, uC S (inc (inc (sC S) 3) 9), f :: Q) else if m_met e ∧ f.1 = 1 then (0, uC (uT S (fu (sT S) f.2.1.toNatClampNeg (sT S f.2.1.toNatClampNeg + 1))) (inc (inc (sC S) 5) 9), Q) else r_fails Q (if f.1 = 0 then uD S (sD S - 1) else S) e).1, 0, -1, u) h' ∧ fr AM h0 h') := fun hn => by
      refine w_aload_n (q := 102) aX4_fails_101 rfl rfl ?_
      refine w_dup (q := 103) aX4_fails_102 rfl rfl ?_
      refine w_get (q := 106) aX4_fails_103 f_4_120 (hm 32 (by decide) (by decide)) rfl rfl ?_
      refine w_iconst (v := 1) (q := 107) aX4_fails_106 rfl rfl ?_
      refine w_isub (q := 108) aX4_fails_107 rfl ?_
      rw [nI_pred]
      refine w_put (q := 111) (fs' := [_, _, _, _, _, _, _, _, _, _, _, _, _, _, _, _, _, _, _, _, _, _, _, _, _, _, _, _, _, _, _]) aX4_fails_108 f_4_120 (hm 32 (by decide) (by decide)) (Nat.le_of_ble_eq_true rfl) rfl rfl (Or.inl rfl) rfl rfl ?_
      refine w_aload_n (q := 112) aX4_fails_111 rfl rfl ?_
      refine w_dup (q := 113) aX4_fails_112 rfl rfl ?_
      refine w_get (q := 116) aX4_fails_113 f_4_123 (up_s _ _ _) rfl rfl ?_
      refine w_aload_n (q := 117) aX4_fails_116 rfl rfl ?_
      refine w_get (q := 120) aX4_fails_117 f_4_56 (up_s _ _ _) rfl rfl ?_
      refine w_iload_n (q := 121) aX4_fails_120 rfl rfl ?_
      refine w_iald (q := 122) aX4_fails_121 (by decide) ((up_n (by decide)).trans (hm 48 (by decide) (by decide))) (mm_ix_at (n := P.length) rfl (by omega) (rg_at (by omega))) rfl ?_
      rw [p1]
      refine w_if_ne (t := 129) (q := 125) aX4_fails_122 (by decide) rfl (fun c122 => ?_) (fun c122 => ?_)
      · refine w_iconst (v := 0) (q := 130) aX4_fails_129 rfl rfl ?_
        refine w_isub (q := 131) aX4_fails_130 rfl ?_
        rw [show nI (sD S) - 0 = nI (sD S) from by simp]
        refine w_put (q := 134) (fs' := [_, _, _, _, _, _, _, _, _, _, _, _, _, _, _, _, _, _, _, _, _, _, _, _, _, _, _, _, _, _, _]) aX4_fails_131 f_4_123 (up_s _ _ _) (Nat.le_of_ble_eq_true rfl) rfl rfl (Or.inl rfl) rfl rfl ?_
        refine t134 hn S _ (by rw [if_neg c122]) ?_ ((hf.up (AM_l (by omega))).up (AM_l (by omega)))
        intro q h1 h2
        rcases q23 q h1 h2 with rfl | rfl | rfl | rfl | rfl | rfl | rfl | rfl | rfl | rfl | rfl | rfl | rfl | rfl | rfl | rfl | rfl | rfl | rfl | rfl | rfl | rfl | rfl <;> first | exact hm _ h1 h2 |  rfl
      · refine w_iconst (v := 1) (q := 126) aX4_fails_125 rfl rfl ?_
        refine w_goto (t := 130) aX4_fails_126 (by decide) ?_
        refine w_isub (q := 131) aX4_fails_130 rfl ?_
        unfold nR at hnr
        rw [if_pos c122] at hnr
        obtain ⟨d, hd⟩ : ∃ d, sD S = d + 1 := ⟨sD S - 1, by omega⟩
        rw [show nI (sD S) - 1 = nI (sD S - 1) by rw [hd, nI_pred]; rfl]
        refine w_put (q := 134) (fs' := [_, _, _, _, _, _, _, _, _, _, _, _, _, _, _, _, _, _, _, _, _, _, _, _, _, _, _, _, _, _, _]) aX4_fails_131 f_4_123 (up_s _ _ _) (Nat.le_of_ble_eq_true rfl) rfl rfl (Or.inl rfl) rfl rfl ?_
        refine t134 hn (uD S (sD S - 1)) _ (by rw [if_pos c122]) ?_ ((hf.up (AM_l (by omega))).up (AM_l (by omega)))
        intro q h1 h2
        rcases q23 q h1 h2 with rfl | rfl | rfl | rfl | rfl | rfl | rfl | rfl | rfl | rfl | rfl | rfl | rfl | rfl | rfl | rfl | rfl | rfl | rfl | rfl | rfl | rfl | rfl <;> first | exact hm _ h1 h2 |  rfl
    refine w_aload_n (q := 24) aX4_fails_23 rfl rfl ?_
    refine w_get (q := 27) aX4_fails_24 f_4_120 (hm 32 (by decide) (by decide)) rfl rfl ?_
    refine w_if_le (t := 192) (q := 30) aX4_fails_27 (by decide) rfl (fun c27 => ?_) (fun c27 => ?_)
    · exact absurd c27 (nI_le0 (by omega))
    · refine w_aload_n (q := 31) aX4_fails_30 rfl rfl ?_
      refine w_get (q := 34) aX4_fails_31 f_4_126 (hm 32 (by decide) (by decide)) rfl rfl ?_
      refine w_if_eq (t := 192) (q := 37) aX4_fails_34 (by decide) rfl (fun c34 => ?_) (fun c34 => ?_)
      · exact absurd c34 he0
      · refine w_aload_n (q := 38) aX4_fails_37 rfl rfl ?_
        refine w_get (q := 41) aX4_fails_38 f_4_120 (hm 32 (by decide) (by decide)) rfl rfl ?_
        refine w_iconst (v := 1) (q := 42) aX4_fails_41 rfl rfl ?_
        refine w_isub (q := 43) aX4_fails_42 rfl ?_
        rw [nI_pred]
        refine w_istore_n (q := 44) (ls' := [(2, _), (1, _), (0, _)]) aX4_fails_43 (by decide) rfl rfl ?_
        refine w_iload_n (q := 45) aX4_fails_44 rfl rfl ?_
        refine w_if_ne (t := 101) (q := 48) aX4_fails_45 (by decide) rfl (fun c45 => ?_) (fun c45 => ?_)
        · exact t101 (fun z => hmet.mp z.1 (bz_ne0 c45))
        · have hme := hmet.mpr (bz_eq0 c45)
          refine w_aload_n (q := 49) aX4_fails_48 rfl rfl ?_
          refine w_get (q := 52) aX4_fails_49 f_4_56 (hm 32 (by decide) (by decide)) rfl rfl ?_
          refine w_iload_n (q := 53) aX4_fails_52 rfl rfl ?_
          refine w_iald (q := 54) aX4_fails_53 (by decide) (hm 48 (by decide) (by decide)) (mm_ix_at (n := P.length) rfl (by omega) (rg_at (by omega))) rfl ?_
          rw [p1]
          refine w_if_ne (t := 101) (q := 57) aX4_fails_54 (by decide) rfl (fun c54 => ?_) (fun c54 => ?_)
          · exact t101 (fun z => c54 z.2.1)
          · obtain ⟨k, hk, ek, -⟩ := k1 c54
            rw [ek] at p2
            refine w_aload_n (q := 58) aX4_fails_57 rfl rfl ?_
            refine w_get (q := 61) aX4_fails_58 f_4_13 (hm 32 (by decide) (by decide)) rfl rfl ?_
            refine w_aload_n (q := 62) aX4_fails_61 rfl rfl ?_
            refine w_get (q := 65) aX4_fails_62 f_4_59 (hm 32 (by decide) (by decide)) rfl rfl ?_
            refine w_iload_n (q := 66) aX4_fails_65 rfl rfl ?_
            refine w_iald (q := 67) aX4_fails_66 (by decide) (hm 49 (by decide) (by decide)) (mm_ix_at (n := P.length) rfl (by omega) (rg_at (by omega))) rfl ?_
            rw [p2]
            refine w_iald (q := 68) aX4_fails_67 (by decide) (hm 34 (by decide) (by decide)) (mm_ix_at (n := k) rfl (by omega) (rg_at (by omega))) rfl ?_
            refine w_iconst (v := 1) (q := 69) aX4_fails_68 rfl rfl ?_
            refine w_ic_ne (t := 101) (q := 72) aX4_fails_69 (by decide) rfl (fun c69 => ?_) (fun c69 => ?_)
            · exact t101 (fun z => c69 (by have := z.2.2; rw [ek, nI_clamp (by omega)] at this; exact this))
            · rw [if_pos ⟨hme, c54, by rw [ek, nI_clamp (by omega)]; exact c69⟩]
              refine w_aload_n (q := 73) aX4_fails_72 rfl rfl ?_
              refine w_get (q := 76) aX4_fails_73 f_4_74 (hm 32 (by decide) (by decide)) rfl rfl ?_
              refine w_iconst (v := 3) (q := 77) aX4_fails_76 rfl rfl ?_
              refine w_dup2 (q := 78) aX4_fails_77 ⟨rfl, rfl⟩ rfl ?_
              refine w_iald (q := 79) aX4_fails_78 (by decide) (hm 54 (by decide) (by decide)) (mm_ix_at (n := 3) rfl (by omega) (rg_at (by omega))) rfl ?_
              refine w_iconst (v := 1) (q := 80) aX4_fails_79 rfl rfl ?_
              refine w_iadd (q := 81) aX4_fails_80 rfl ?_
              refine w_iast (q := 82) (n := 3) (vs' := _) aX4_fails_81 (hm 54 (by decide) (by decide)) (rfl) (by rw [rg_len]; omega) (by rw [rg_len]; omega) (rg_set _ _ _ _) rfl ?_
              refine w_aload_n (q := 83) aX4_fails_82 rfl rfl ?_
              refine w_get (q := 86) aX4_fails_83 f_4_74 ((up_n (by decide)).trans (hm 32 (by decide) (by decide))) rfl rfl ?_
              refine w_bipush (v := 9) (q := 88) aX4_fails_86 rfl rfl ?_
              refine w_dup2 (q := 89) aX4_fails_88 ⟨rfl, rfl⟩ rfl ?_
              refine w_iald (q := 90) aX4_fails_89 (by decide) (up_s _ _ _) (mm_ix_at (n := 9) rfl (by omega) (rg_at (by omega))) rfl ?_
              refine w_iconst (v := 1) (q := 91) aX4_fails_90 rfl rfl ?_
              refine w_iadd (q := 92) aX4_fails_91 rfl ?_
              refine w_iast (q := 93) (n := 9) (vs' := _) aX4_fails_92 (up_s _ _ _) (rfl) (by rw [rg_len]; omega) (by rw [rg_len]; omega) (rg_set _ _ _ _) rfl ?_
              refine w_aload_n (q := 94) aX4_fails_93 rfl rfl ?_
              refine w_iconst (v := 0) (q := 95) aX4_fails_94 rfl rfl ?_
              refine w_put (q := 98) (fs' := [_, _, _, _, _, _, _, _, _, _, _, _, _, _, _, _, _, _, _, _, _, _, _, _, _, _, _, _, _, _, _]) aX4_fails_95 f_4_126 ((up_n (by decide)).trans ((up_n (by decide)).trans (hm 32 (by decide) (by decide)))) (Nat.le_of_ble_eq_true rfl) rfl rfl (Or.inl rfl) rfl rfl ?_
              refine w_goto (t := 189) aX4_fails_98 (by decide) ?_
              refine w_goto (t := 23) aX4_fails_189 (by decide) ?_
              refine (x_fails (S := uC S (inc (inc (sC S) 3) 9)) (P := (f :: Q).reverse) (u := u) ⟨w, ?_, r1, r2, r3, by rw [List.reverse_cons, hP]; exact r4⟩ (((hf.up (AM_l (by omega))).up (AM_l (by omega))).up (AM_l (by omega)))).ls (Rl.cons (Rl.cons Rl.nil rfl) rfl)
              rw [List.reverse_cons, hP, List.length_append]
              have a2 : fu (fu (fun j => Value.int (if j = 0 then nI (sM S) else sC S j)) 3 (.int (sC S 3 + 1))) 9 (.int (sC S 9 + 1)) = fun j => Value.int (if j = 0 then nI (sM S) else inc (inc (sC S) 3) 9 j) := by
                rw [f54 (by decide)]
                exact f54 (S := uC S (inc (sC S) 3)) (by decide)
              intro q h1 h2
              rcases q23 q h1 h2 with rfl | rfl | rfl | rfl | rfl | rfl | rfl | rfl | rfl | rfl | rfl | rfl | rfl | rfl | rfl | rfl | rfl | rfl | rfl | rfl | rfl | rfl | rfl <;> first | exact hm _ h1 h2 | exact congrArg (fun z => some ((5 : Nat), rg 10 z)) a2 |  rfl
theorem d_fails {F : Nat} {e : Int32} {u : Int64} {m : Nat} (he : e = 1 ∨ e = 2 ∨ e = 3 ∨ e = 4 ∨ e = 5 ∨ e = 6) {Q : List Fr} {S : St} {h : mm_H} (hl : Q.length ≤ 600) (hok : ∀ f ∈ Q, okF m f) (hn : nR Q ≤ sD S) (hR : RM S Q.reverse (e, 0, -1, u) h) : mW none F mX4_fails 0 [(0, .ref 32)] [] h (fun r h' => r = none ∧ RM (r_fails Q S e).2.1 (r_fails Q S e).2.2.reverse ((r_fails Q S e).1, 0, -1, u) h' ∧ fr AM h h') := by
  have k := m_fails (F := F) (u := u) (h0 := h) he Q S h hl hok hn hR fr.rf
  obtain ⟨w, hm, r1, r2, r3, r4⟩ := hR
  refine w_aload_n (q := 1) aX4_fails_0 rfl rfl ?_
  refine w_get (q := 4) aX4_fails_1 f_4_126 (hm 32 (by decide) (by decide)) rfl rfl ?_
  refine w_iconst (v := 5) (q := 5) aX4_fails_4 rfl rfl ?_
  refine w_ic_eq (t := 17) (q := 8) aX4_fails_5 (by decide) rfl (fun c5 => ?_) (fun c5 => ?_)
  · rw [bz_1 (Or.inl c5)] at k
    refine w_iconst (v := 1) (q := 18) aX4_fails_17 rfl rfl ?_
    refine w_goto (t := 22) aX4_fails_18 (by decide) ?_
    refine w_istore_n (q := 23) (ls' := [(1, _), (0, _)]) aX4_fails_22 (by decide) rfl rfl ?_
    exact k
  · refine w_aload_n (q := 9) aX4_fails_8 rfl rfl ?_
    refine w_get (q := 12) aX4_fails_9 f_4_126 (hm 32 (by decide) (by decide)) rfl rfl ?_
    refine w_bipush (v := 6) (q := 14) aX4_fails_12 rfl rfl ?_
    refine w_ic_ne (t := 21) (q := 17) aX4_fails_14 (by decide) rfl (fun c14 => ?_) (fun c14 => ?_)
    · rw [bz_0 (fun z => z.elim c5 c14)] at k
      refine w_iconst (v := 0) (q := 22) aX4_fails_21 rfl rfl ?_
      refine w_istore_n (q := 23) (ls' := [(1, _), (0, _)]) aX4_fails_22 (by decide) rfl rfl ?_
      exact k
    · rw [bz_1 (Or.inr c14)] at k
      refine w_iconst (v := 1) (q := 18) aX4_fails_17 rfl rfl ?_
      refine w_goto (t := 22) aX4_fails_18 (by decide) ?_
      refine w_istore_n (q := 23) (ls' := [(1, _), (0, _)]) aX4_fails_22 (by decide) rfl rfl ?_
      exact k
