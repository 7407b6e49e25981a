/-- what holds between the calls; no act has been begun more than M times -/
def Lv (M : Nat) (S : St) : Prop := Ok S ∧ sD S = 0 ∧ (∀ k, k < 6 → sW S k = 0 ∨ sW S k = 1) ∧ ∀ k, sB S k ≤ M
theorem Lv.iv {M : Nat} {S : St} (h : Lv M S) (hM : M < 2000000) : Iv (M + 200) (uS S 0) [] := ⟨Ok.s0 h.1, (fun f hf => by cases hf), h.2.1.symm, Nat.zero_le _, h.2.2.1, fun k => by have := h.2.2.2 k; show sB S k + 200 ≤ M + 200 + 0; omega, by omega⟩
theorem Iv.lv {M : Nat} {S : St} (h : Iv (M + 200) S []) : Lv (M + 200) S := ⟨h.1, h.2.2.1.symm, h.2.2.2.2.1, fun k => by have := h.2.2.2.2.2.1 k; have := h.1.2.2.2.2.2.2; omega⟩
theorem Iv.drain {N : Nat} : ∀ (m : Nat) (e : Int32) (S : St), Iv N S [] → Iv N (m_drain (m_perf 201) m e S).2 [] := by
  intro m
  induction m with
  | zero => intro e S h; exact h
  | succ m ih =>
    intro e S h
    unfold m_drain
    split
    · split
      · exact h
      · rename_i hq
        exact ih _ _ ((h.popQ hq).rung)
    · exact h
theorem Lv.answer {M : Nat} {q : Int32 × St} (h : Lv M q.2) : Lv M (m_answer q).2 := by
  unfold m_answer
  split
  · exact h
  · exact h
theorem Lv.mono {M M' : Nat} {S : St} (h : Lv M S) (hm : M ≤ M') : Lv M' S := ⟨h.1, h.2.1, h.2.2.1, fun k => Nat.le_trans (h.2.2.2 k) hm⟩
theorem Lv.ring {M : Nat} {S : St} {b : Int32} {v : Int64} (h : Lv M S) (hM : M < 2000000) : Lv (M + 200) (p_ring S b v).2 := by
  unfold p_ring
  split
  · split
    · exact h.mono (by omega)
    · exact (Iv.drain _ _ _ (h.iv hM).rung).lv.answer
  · exact h.mono (by omega)
theorem Lv.drain {M : Nat} {S : St} (h : Lv M S) (hM : M < 2000000) : Lv (M + 200) (p_drain S).2 := by
  unfold p_drain
  split
  · exact h.mono (by omega)
  · exact (Iv.drain _ _ _ (h.iv hM)).lv.answer
theorem Lv.act {M : Nat} {S : St} {x : Int32} {v : Int64} (h : Lv M S) (hM : M < 2000000) : Lv (M + 200) (p_do S x v).2 := by
  unfold p_do
  split
  · split
    · exact h.mono (by omega)
    · exact (Iv.drain _ _ _ ((h.iv hM).perf (h.1.2.1 _))).lv.answer
  · exact h.mono (by omega)
theorem d_all {F N : Nat} {h : mm_H} {q : Int32 × St} {S : St} {P : List Fr} {X : Xs} (hR : RM S P X h) (hw : mW none (F + 4) mX4_works 0 [(0, .ref 32)] [] h (wP q h)) (he : er q.1) (e7 : ¬ q.1 = 7) (hI : Iv N q.2 []) (hq : (sQ q.2).length + 200 ≤ 220 + sS q.2) : mW none (F + 5) mX4_all 0 [(0, .ref 32)] [] h (aP (m_answer (m_drain (m_perf 201) 220 q.1 q.2)) h) := by
  obtain ⟨w, hm, -⟩ := hR
  refine w_aload_n (q := 1) aX4_all_0 rfl rfl ?_
  refine w_callV aX4_all_1 t_4_172 (this_at rfl (hm 32 (by decide) (by decide))) (rfl) (hw) (fun r1 h1 hp => ?_)
  obtain ⟨rfl, ⟨u, hR2⟩, hf⟩ := hp
  exact l_all 220 q.1 q.2 u h1 he e7 hI hq hR2 hf
theorem uS_D0 {S : St} (h : sD S = 0) : uS (uD S 0) 0 = uS S 0 := by
  show (sC S, sT S, sW S, sL S, sQ S, sM S, sA S, sB S, sH S, 0, 0) = (sC S, sT S, sW S, sL S, sQ S, sM S, sA S, sB S, sH S, 0, sD S)
  rw [h]
theorem r_cell {S : St} {P : List Fr} {X : Xs} {h : mm_H} (hR : RM S P X h) : ∃ c, h.2.2 32 = some (4, c) := by
  obtain ⟨w, hm, -⟩ := hR
  exact ⟨_, hm 32 (by decide) (by decide)⟩
theorem d_ring {F M : Nat} {h : mm_H} {S : St} {X : Xs} {b : Int32} {v : Int64} (hL : Lv M S) (hM : M < 2000000) (hR : RM S [] X h) : mW none (F + 6) mX4_ring 0 [(0, .ref 32), (1, .int b), (2, .long v)] [] h (aP (p_ring S b v) h) := by
  have hR0 := hR
  obtain ⟨w, hm, r1, r2, r3, r4⟩ := hR
  unfold p_ring
  refine w_iload_n (q := 1) aX4_ring_0 rfl rfl ?_
  refine w_callS aX4_ring_1 x_4_97 t_4_97 (rfl) (d_isBell) (fun r1 h1 hp => ?_)
  obtain ⟨rfl, rfl⟩ := hp
  refine w_if_ne (t := 10) (q := 7) aX4_ring_4 (by decide) rfl (fun c4 => ?_) (fun c4 => ?_)
  · have hb := bz_ne0 c4
    rw [if_pos hb]
    refine w_aload_n (q := 11) aX4_ring_10 rfl rfl ?_
    refine w_get (q := 14) aX4_ring_11 f_4_74 (hm 32 (by decide) (by decide)) rfl rfl ?_
    refine w_bipush (v := 9) (q := 16) aX4_ring_14 rfl rfl ?_
    refine w_iald (q := 17) aX4_ring_16 (by decide) (hm 54 (by decide) (by decide)) (mm_ix_at (n := 9) rfl (by omega) (rg_at (by omega))) rfl ?_
    refine w_sipush (v := 2000) (q := 20) aX4_ring_17 rfl rfl ?_
    refine w_ic_lt (t := 26) (q := 23) aX4_ring_20 (by decide) rfl (fun c20 => ?_) (fun c20 => ?_)
    · have hlt : sC S 9 < 2000 := c20
      rw [if_neg (Int32.not_le.mpr hlt)]
      obtain ⟨i, hi, rfl⟩ := rN_of (by omega) hb
      rw [nI_clamp (by omega)]
      have hI := hL.iv hM
      have her := (PfW.perf 201).ring (uS S 0) i v
      have hgw : (sQ (m_ring (m_perf 201) (uS S 0) i v).2).length + 0 ≤ (sQ S).length + sS (m_ring (m_perf 201) (uS S 0) i v).2 := her.2.2.2
      have hq20 := r3.1
      refine w_aload_n (q := 27) aX4_ring_26 rfl rfl ?_
      refine w_callV aX4_ring_27 t_4_175 (this_at rfl (hm 32 (by decide) (by decide))) (rfl) (d_ready hR0) (fun r27 h27 hp => ?_)
      obtain ⟨rfl, hR2, hf2⟩ := hp
      rw [uS_D0 hL.2.1] at hR2
      obtain ⟨c2, h2⟩ := r_cell hR2
      refine w_aload_n (q := 31) aX4_ring_30 rfl rfl ?_
      refine w_iload_n (q := 32) aX4_ring_31 rfl rfl ?_
      refine w_lload_n (q := 33) aX4_ring_32 rfl rfl ?_
      refine w_callV aX4_ring_33 t_4_143 (this_at rfl h2) (rfl) (d_rings (by decide) hi hI.1.2.2.2.2.2.1 hR2) (fun r33 h33 hp => ?_)
      obtain ⟨rfl, hR3, hf3⟩ := hp
      obtain ⟨c3, h3⟩ := r_cell hR3
      refine w_aload_n (q := 37) aX4_ring_36 rfl rfl ?_
      refine w_callV aX4_ring_37 t_4_178 (this_at rfl h3) (rfl) (d_all hR3 (W_ring hi hI hR3) her.1 her.2.1 hI.rung (by omega)) (fun r37 h37 hp => ?_)
      obtain ⟨rfl, hR4, hf4⟩ := hp
      refine w_iret aX4_ring_40 rfl ?_
      exact ⟨rfl, hR4, (hf2.tr hf3).tr hf4⟩
    · have hge : 2000 ≤ sC S 9 := Int32.not_lt.mp c20
      rw [if_pos hge]
      refine w_bipush (v := -3) (q := 25) aX4_ring_23 rfl rfl ?_
      refine w_iret aX4_ring_25 rfl ?_
      exact ⟨rfl, ⟨X, hR0⟩, fr.rf⟩
  · rw [if_neg (bz_eq0 c4)]
    refine w_bipush (v := -2) (q := 9) aX4_ring_7 rfl rfl ?_
    refine w_iret aX4_ring_9 rfl ?_
    exact ⟨rfl, ⟨X, hR0⟩, fr.rf⟩
theorem d_drain {F M : Nat} {h : mm_H} {S : St} {X : Xs} (hL : Lv M S) (hM : M < 2000000) (hR : RM S [] X h) : mW none (F + 6) mX4_drain 0 [(0, .ref 32)] [] h (aP (p_drain S) h) := by
  have hR0 := hR
  obtain ⟨w, hm, r1, r2, r3, r4⟩ := hR
  unfold p_drain
  refine w_aload_n (q := 1) aX4_drain_0 rfl rfl ?_
  refine w_get (q := 4) aX4_drain_1 f_4_74 (hm 32 (by decide) (by decide)) rfl rfl ?_
  refine w_bipush (v := 9) (q := 6) aX4_drain_4 rfl rfl ?_
  refine w_iald (q := 7) aX4_drain_6 (by decide) (hm 54 (by decide) (by decide)) (mm_ix_at (n := 9) rfl (by omega) (rg_at (by omega))) rfl ?_
  refine w_sipush (v := 2000) (q := 10) aX4_drain_7 rfl rfl ?_
  refine w_ic_lt (t := 16) (q := 13) aX4_drain_10 (by decide) rfl (fun c10 => ?_) (fun c10 => ?_)
  · have hlt : sC S 9 < 2000 := c10
    rw [if_neg (Int32.not_le.mpr hlt)]
    have hI := hL.iv hM
    have hq20 : (sQ S).length ≤ 20 := r3.1
    refine w_aload_n (q := 17) aX4_drain_16 rfl rfl ?_
    refine w_callV aX4_drain_17 t_4_175 (this_at rfl (hm 32 (by decide) (by decide))) (rfl) (d_ready hR0) (fun r17 h17 hp => ?_)
    obtain ⟨rfl, hR2, hf2⟩ := hp
    rw [uS_D0 hL.2.1] at hR2
    obtain ⟨c2, h2⟩ := r_cell hR2
    refine w_aload_n (q := 21) aX4_drain_20 rfl rfl ?_
    refine w_callV aX4_drain_21 t_4_178 (this_at rfl h2) (rfl) (d_all (q := (0, uS S 0)) hR2 (W_idle hR2) er_0 (show ¬ (0 : Int32) = 7 by decide) hI (by show (sQ S).length + 200 ≤ 220 + 0; omega)) (fun r21 h21 hp => ?_)
    obtain ⟨rfl, hR4, hf4⟩ := hp
    refine w_iret aX4_drain_24 rfl ?_
    exact ⟨rfl, hR4, hf2.tr hf4⟩
  · have hge : 2000 ≤ sC S 9 := Int32.not_lt.mp c10
    rw [if_pos hge]
    refine w_bipush (v := -3) (q := 15) aX4_drain_13 rfl rfl ?_
    refine w_iret aX4_drain_15 rfl ?_
    exact ⟨rfl, ⟨X, hR0⟩, fr.rf⟩
theorem d_act {F M : Nat} {h : mm_H} {S : St} {X : Xs} {x : Int32} {v : Int64} (hL : Lv M S) (hM : M < 2000000) (hR : RM S [] X h) : mW none (F + 6) mX4_act 0 [(0, .ref 32), (1, .int x), (2, .long v)] [] h (aP (p_do S x v) h) := by
  have hR0 := hR
  obtain ⟨w, hm, r1, r2, r3, r4⟩ := hR
  have hM40 := hL.1.1
  unfold p_do
  refine w_aload_n (q := 1) aX4_act_0 rfl rfl ?_
  refine w_iload_n (q := 2) aX4_act_1 rfl rfl ?_
  refine w_callV aX4_act_2 t_4_106 (this_at rfl (hm 32 (by decide) (by decide))) (rfl) (d_isHearer hM40 hm) (fun r2 h2 hp => ?_)
  obtain ⟨rfl, rfl⟩ := hp
  refine w_if_ne (t := 11) (q := 8) aX4_act_5 (by decide) rfl (fun c5 => ?_) (fun c5 => ?_)
  · have hb := bz_ne0 c5
    rw [if_pos hb]
    refine w_aload_n (q := 12) aX4_act_11 rfl rfl ?_
    refine w_get (q := 15) aX4_act_12 f_4_74 (hm 32 (by decide) (by decide)) rfl rfl ?_
    refine w_bipush (v := 9) (q := 17) aX4_act_15 rfl rfl ?_
    refine w_iald (q := 18) aX4_act_17 (by decide) (hm 54 (by decide) (by decide)) (mm_ix_at (n := 9) rfl (by omega) (rg_at (by omega))) rfl ?_
    refine w_sipush (v := 2000) (q := 21) aX4_act_18 rfl rfl ?_
    refine w_ic_lt (t := 27) (q := 24) aX4_act_21 (by decide) rfl (fun c21 => ?_) (fun c21 => ?_)
    · have hlt : sC S 9 < 2000 := c21
      rw [if_neg (Int32.not_le.mpr hlt)]
      obtain ⟨i, hi, rfl⟩ := rN_of (by omega) hb
      rw [nI_clamp (by omega)]
      have hI := hL.iv hM
      have ho : ∀ k, sH S i = some k → k < sM (uS S 0) := hL.1.2.1 i
      have her := PfW.perf 201 (uS S 0) (sH S i) v
      have hgw : (sQ (m_perf 201 (uS S 0) (sH S i) v).2).length + 0 ≤ (sQ S).length + sS (m_perf 201 (uS S 0) (sH S i) v).2 := her.2.2
      have hq20 := r3.1
      refine w_aload_n (q := 28) aX4_act_27 rfl rfl ?_
      refine w_callV aX4_act_28 t_4_175 (this_at rfl (hm 32 (by decide) (by decide))) (rfl) (d_ready hR0) (fun r28 h28 hp => ?_)
      obtain ⟨rfl, hR2, hf2⟩ := hp
      rw [uS_D0 hL.2.1] at hR2
      have hR2' := hR2
      obtain ⟨w2, hm2, -⟩ := hR2'
      refine w_aload_n (q := 32) aX4_act_31 rfl rfl ?_
      refine w_aload_n (q := 33) aX4_act_32 rfl rfl ?_
      refine w_get (q := 36) aX4_act_33 f_4_47 (hm2 32 (by decide) (by decide)) rfl rfl ?_
      refine w_iload_n (q := 37) aX4_act_36 rfl rfl ?_
      refine w_iald (q := 38) aX4_act_37 (by decide) (hm2 45 (by decide) (by decide)) (mm_ix_at (n := i) rfl (by omega) (rg_at (by omega))) rfl ?_
      rw [show (if i < sM (uS S 0) then oI (sH (uS S 0) i) else 0) = oI (sH S i) from if_pos hi]
      refine w_lload_n (q := 39) aX4_act_38 rfl rfl ?_
      refine w_callV aX4_act_39 t_4_157 (this_at rfl (hm2 32 (by decide) (by decide))) (rfl) (d_begins (fun k hk => by have := hL.1.2.1 i k hk; omega) hR2) (fun r39 h39 hp => ?_)
      obtain ⟨rfl, hR3, hf3⟩ := hp
      obtain ⟨c3, h3⟩ := r_cell hR3
      refine w_aload_n (q := 43) aX4_act_42 rfl rfl ?_
      refine w_callV aX4_act_43 t_4_178 (this_at rfl h3) (rfl) (d_all hR3 (W_perf hI ho hR3) (er.well her.1).1 (er.well her.1).2 (hI.perf ho) (by show (sQ (m_perf 201 (uS S 0) (sH S i) v).2).length + 200 ≤ 220 + sS (m_perf 201 (uS S 0) (sH S i) v).2; omega)) (fun r43 h43 hp => ?_)
      obtain ⟨rfl, hR4, hf4⟩ := hp
      refine w_iret aX4_act_46 rfl ?_
      exact ⟨rfl, hR4, (hf2.tr hf3).tr hf4⟩
    · have hge : 2000 ≤ sC S 9 := Int32.not_lt.mp c21
      rw [if_pos hge]
      refine w_bipush (v := -3) (q := 26) aX4_act_24 rfl rfl ?_
      refine w_iret aX4_act_26 rfl ?_
      exact ⟨rfl, ⟨X, hR0⟩, fr.rf⟩
  · rw [if_neg (bz_eq0 c5)]
    refine w_bipush (v := -2) (q := 10) aX4_act_8 rfl rfl ?_
    refine w_iret aX4_act_10 rfl ?_
    exact ⟨rfl, ⟨X, hR0⟩, fr.rf⟩
