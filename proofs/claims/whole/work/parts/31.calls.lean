def gP (q : Int32 × St) (h : mm_H) : Option Value → mm_H → Prop := fun r h' => r = some (.int q.1) ∧ RC q.2 h' ∧ fr AC h h'
theorem Go.drain {pf : Pf} (hp : PfOk pf) : ∀ (n : Nat) (e : Int32) (S : St), Ok S → Go S (m_drain pf n e S).2 := by
  intro n
  induction n with
  | zero => intro e S _; exact Go.rf S
  | succ n ih =>
    intro e S ho
    unfold m_drain
    split
    · split
      · exact Go.rf S
      · rename_i q qs hq
        have g1 : Go S (uQ S qs) := Go.Q (fun e he => ho.2.2.2.2.1 e (by rw [hq]; exact List.mem_cons_of_mem _ he))
        have g2 := g1.tr (Go.ring hp (k := q.1.toNatClampNeg) (v := q.2) (g1.1 ho))
        exact g2.tr (ih _ _ (g2.1 ho))
    · exact Go.rf S
theorem l_rqa {F : Nat} (hF : 615 ≤ F) {h0 : mm_H} {e0 : Int32} : ∀ (m tk : Nat) (e : Int32) (S : St) (h : mm_H), m + tk = 220 → Ok S → RC S h → fr AC h0 h → mW none (F + 1) mX3_ringQueueAfter 9 [(4, .int (nI tk)), (3, .int 220), (2, .int e), (0, .ref 1), (1, .int e0)] [] h (gP (m_drain (m_perf 201) m e S) h0) := by
  have fin : ∀ (e : Int32) (S : St) (h : mm_H) (ls : mm_L), mm_lk ls 2 = some (.int e) → RC S h → fr AC h0 h → mW none (F + 1) mX3_ringQueueAfter 69 ls [] h (gP (e, S) h0) := fun e S h ls hl hR hf => by
    refine w_iload_n (q := 70) aX3_ringQueueAfter_69 hl rfl ?_
    refine w_iret aX3_ringQueueAfter_70 rfl ?_
    exact ⟨rfl, hR, hf⟩
  intro m
  induction m with
  | zero =>
    intro tk e S h hm ho hR hf
    refine w_iload (q := 11) aX3_ringQueueAfter_9 rfl rfl ?_
    refine w_iload_n (q := 12) aX3_ringQueueAfter_11 rfl rfl ?_
    refine w_ic_ge (t := 69) (q := 15) aX3_ringQueueAfter_12 (by decide) rfl (fun c12 => ?_) (fun c12 => ?_)
    · exact fin e S h _ rfl hR hf
    · exact absurd (by obtain rfl : tk = 220 := by omega
                       decide) c12
  | succ m ih =>
    intro tk e S h hm ho hR hf
    refine w_iload (q := 11) aX3_ringQueueAfter_9 rfl rfl ?_
    refine w_iload_n (q := 12) aX3_ringQueueAfter_11 rfl rfl ?_
    refine w_ic_ge (t := 69) (q := 15) aX3_ringQueueAfter_12 (by decide) rfl (fun c12 => ?_) (fun c12 => ?_)
    · exact absurd c12 (nI_ge (b := 220) (by omega) (by omega))
    · refine w_iload_n (q := 16) aX3_ringQueueAfter_15 rfl rfl ?_
      refine w_if_ne (t := 69) (q := 19) aX3_ringQueueAfter_16 (by decide) rfl (fun c16 => ?_) (fun c16 => ?_)
      · unfold m_drain
        rw [if_neg c16]
        exact fin e S h _ rfl hR hf
      · subst c16
        unfold m_drain
        rw [if_pos rfl]
        obtain ⟨hd, fb, fv, h4, h5, h6, hhd, hlen, hqe⟩ := hR.qu
        refine w_aload_n (q := 20) aX3_ringQueueAfter_19 rfl rfl ?_
        refine w_get (q := 23) aX3_ringQueueAfter_20 f_3_22 (hR.ho) rfl rfl ?_
        refine w_get (q := 26) aX3_ringQueueAfter_23 f_3_121 (h4) rfl rfl ?_
        refine w_if_le (t := 69) (q := 29) aX3_ringQueueAfter_26 (by decide) rfl (fun c26 => ?_) (fun c26 => ?_)
        · cases hq : sQ S with
          | nil => exact fin 0 S h _ rfl hR hf
          | cons q qs =>
            rw [hq] at c26 hlen
            exact absurd c26 (nI_nle (by simp) (by omega))
        · cases hq : sQ S with
          | nil => rw [hq] at c26; exact absurd (by decide) c26
          | cons q qs =>
            have hQR : QR h (q :: qs) := by rw [← hq]; exact hR.qu
            obtain ⟨i, hi, ei⟩ := rN_of (by omega) (ho.2.2.2.2.1 q (by rw [hq]; exact List.mem_cons_self))
            have g1 : Go S (uQ S qs) := Go.Q (fun e he => ho.2.2.2.2.1 e (by rw [hq]; exact List.mem_cons_of_mem _ he))
            have g2 := g1.tr (Go.ring (PfOk.perf 201) (k := i) (v := q.2) (g1.1 ho))
            refine w_aload_n (q := 30) aX3_ringQueueAfter_29 rfl rfl ?_
            refine w_get (q := 33) aX3_ringQueueAfter_30 f_3_22 (hR.ho) rfl rfl ?_
            refine w_callV aX3_ringQueueAfter_33 t_3_135 (this_at rfl h4) (rfl) (c_firstBell hQR) (fun r33 h33 hp => ?_)
            obtain ⟨rfl, rfl⟩ := hp
            refine w_istore (q := 38) (ls' := [(5, _), (4, _), (3, _), (2, _), (0, _), (1, _)]) aX3_ringQueueAfter_36 (by decide) rfl rfl ?_
            refine w_aload_n (q := 39) aX3_ringQueueAfter_38 rfl rfl ?_
            refine w_get (q := 42) aX3_ringQueueAfter_39 f_3_22 (hR.ho) rfl rfl ?_
            refine w_callV aX3_ringQueueAfter_42 t_3_139 (this_at rfl h4) (rfl) (c_firstValue hQR) (fun r42 h42 hp => ?_)
            obtain ⟨rfl, rfl⟩ := hp
            refine w_lstore (q := 47) (ls' := [(6, _), (5, _), (4, _), (3, _), (2, _), (0, _), (1, _)]) aX3_ringQueueAfter_45 (by decide) rfl rfl ?_
            refine w_aload_n (q := 48) aX3_ringQueueAfter_47 rfl rfl ?_
            refine w_get (q := 51) aX3_ringQueueAfter_48 f_3_22 (hR.ho) rfl rfl ?_
            refine w_callV aX3_ringQueueAfter_51 t_3_143 (this_at rfl h4) (rfl) (c_dropFirst hQR) (fun r51 h51 hp => ?_)
            obtain ⟨rfl, hQ2, hfq⟩ := hp
            have hR2 := hR.upQu hfq hQ2
            refine w_aload_n (q := 55) aX3_ringQueueAfter_54 rfl rfl ?_
            refine w_iload (q := 57) aX3_ringQueueAfter_55 rfl rfl ?_
            refine w_lload (q := 59) aX3_ringQueueAfter_57 rfl rfl ?_
            rw [ei]
            refine w_callV aX3_ringQueueAfter_59 t_3_80 (this_at rfl hR2.ho) (rfl) (c_ringBell (c_perform 201) (by omega) (g1.1 ho) hR2 hi (by omega)) (fun r59 h59 hp => ?_)
            obtain ⟨rfl, hR3, hf3, -⟩ := hp
            refine w_istore_n (q := 63) (ls' := [(2, _), (6, _), (5, _), (4, _), (3, _), (0, _), (1, _)]) aX3_ringQueueAfter_62 (by decide) rfl rfl ?_
            refine w_iinc (q := 66) (ls' := [(4, _), (2, _), (6, _), (5, _), (3, _), (0, _), (1, _)]) aX3_ringQueueAfter_63 rfl rfl (by decide) rfl rfl ?_
            refine w_goto (t := 9) aX3_ringQueueAfter_66 (by decide) ?_
            rw [show nI tk + Int32.ofInt 1 = nI (tk + 1) from nI_1 tk]
            dsimp only
            rw [ei, nI_clamp (by omega)]
            exact mW.ls (ih (tk + 1) _ _ h59 (by omega) (g2.1 ho) hR3 ((hf.tr (hfq.mono (fun q hq => Or.inl (by unfold Aq at hq; omega)))).tr hf3)) (((((Rl.nil.cons rfl).cons rfl).cons rfl).cons rfl).cons rfl)
theorem c_rqa {F : Nat} (hF : 616 ≤ F) {h : mm_H} {S : St} {e : Int32} (ho : Ok S) (hR : RC S h) : mW none F mX3_ringQueueAfter 0 [(0, .ref 1), (1, .int e)] [] h (gP (m_drain (m_perf 201) 220 e S) h) := by
  obtain ⟨G, rfl⟩ : ∃ G, F = G + 1 := ⟨F - 1, by omega⟩
  refine w_iload_n (q := 1) aX3_ringQueueAfter_0 rfl rfl ?_
  refine w_istore_n (q := 2) (ls' := [(2, _), (0, _), (1, _)]) aX3_ringQueueAfter_1 (by decide) rfl rfl ?_
  refine w_sipush (v := 220) (q := 5) aX3_ringQueueAfter_2 rfl rfl ?_
  refine w_istore_n (q := 6) (ls' := [(3, _), (2, _), (0, _), (1, _)]) aX3_ringQueueAfter_5 (by decide) rfl rfl ?_
  refine w_iconst (v := 0) (q := 7) aX3_ringQueueAfter_6 rfl rfl ?_
  refine w_istore (q := 9) (ls' := [(4, _), (3, _), (2, _), (0, _), (1, _)]) aX3_ringQueueAfter_7 (by decide) rfl rfl ?_
  exact l_rqa (by omega) 220 0 e S h rfl ho hR fr.rf
def p_ring (S : St) (b : Int32) (v : Int64) : Int32 × St := if rN 6 b then (if 2000 ≤ sC S 9 then (-3, S) else m_answer (m_drain (m_perf 201) 220 (m_ring (m_perf 201) (uS S 0) b.toNatClampNeg v).1 (m_ring (m_perf 201) (uS S 0) b.toNatClampNeg v).2)) else (-2, S)
def p_drain (S : St) : Int32 × St := if 2000 ≤ sC S 9 then (-3, S) else m_answer (m_drain (m_perf 201) 220 0 (uS S 0))
def p_do (S : St) (x : Int32) (v : Int64) : Int32 × St := if rN (sM S) x then (if 2000 ≤ sC S 9 then (-3, S) else m_answer (m_drain (m_perf 201) 220 (m_well (m_perf 201 (uS S 0) (sH S x.toNatClampNeg) v).1) (m_perf 201 (uS S 0) (sH S x.toNatClampNeg) v).2)) else (-2, S)
theorem Ok.s0 {S : St} (ho : Ok S) : Ok (uS S 0) := ⟨ho.1, ho.2.1, ho.2.2.1, ho.2.2.2.1, ho.2.2.2.2.1, ho.2.2.2.2.2.1, by show 0 ≤ 200; omega⟩
theorem RC.s0 {S : St} {h : mm_H} (r : RC S h) : RC (uS S 0) (mm_up h 1 (3, [.ref 2, .ref 3, .ref 4, .ref 7, .ref 8, .int (nI (sM S)), .ref 9, .int (nI (sD S)), .int 0, .int (sC S 1), .int (sC S 2), .int (sC S 3), .int (sC S 4), .int (sC S 5), .int (sC S 6), .int (sC S 8), .int (sC S 9)])) := r.upHo (S' := uS S 0) rfl ⟨rfl, rfl, rfl, rfl, rfl, rfl, rfl, rfl⟩
theorem c_ring {F : Nat} (hF : 620 ≤ F) {h : mm_H} {S : St} {b : Int32} {v : Int64} (ho : Ok S) (hR : RC S h) : mW none F mX3_ring 0 [(0, .ref 1), (1, .int b), (2, .long v)] [] h (gP (p_ring S b v) h) := by
  obtain ⟨G, rfl⟩ : ∃ G, F = G + 2 := ⟨F - 2, by omega⟩
  unfold p_ring
  refine w_iload_n (q := 1) aX3_ring_0 rfl rfl ?_
  refine w_callS aX3_ring_1 x_3_49 t_3_49 (rfl) (c_isBell) (fun r1 h1 hp => ?_)
  obtain ⟨rfl, rfl⟩ := hp
  refine w_if_ne (t := 10) (q := 7) aX3_ring_4 (by decide) rfl (fun c4 => ?_) (fun c4 => ?_)
  · have hb := bz_ne0 c4
    rw [if_pos hb]
    obtain ⟨j, hj, rfl⟩ := rN_of (by omega) hb
    rw [nI_clamp (by omega)]
    refine w_aload_n (q := 11) aX3_ring_10 rfl rfl ?_
    refine w_get (q := 14) aX3_ring_11 f_3_74 (hR.ho) rfl rfl ?_
    refine w_sipush (v := 2000) (q := 17) aX3_ring_14 rfl rfl ?_
    refine w_ic_lt (t := 23) (q := 20) aX3_ring_17 (by decide) rfl (fun c17 => ?_) (fun c17 => ?_)
    · rw [if_neg (fun z => k2_nlt z c17)]
      refine w_aload_n (q := 24) aX3_ring_23 rfl rfl ?_
      refine w_iconst (v := 0) (q := 25) aX3_ring_24 rfl rfl ?_
      refine w_put (q := 28) (fs' := [_, _, _, _, _, _, _, _, _, _, _, _, _, _, _, _, _]) aX3_ring_25 f_3_77 (hR.ho) (Nat.le_of_ble_eq_true rfl) rfl rfl (Or.inl rfl) rfl rfl ?_
      have hR0 := hR.s0
      have ho0 := ho.s0
      have g1 := Go.ring (PfOk.perf 201) (k := j) (v := v) ho0
      refine w_aload_n (q := 29) aX3_ring_28 rfl rfl ?_
      refine w_aload_n (q := 30) aX3_ring_29 rfl rfl ?_
      refine w_aload_n (q := 31) aX3_ring_30 rfl rfl ?_
      refine w_iload_n (q := 32) aX3_ring_31 rfl rfl ?_
      refine w_lload_n (q := 33) aX3_ring_32 rfl rfl ?_
      refine w_callV aX3_ring_33 t_3_80 (this_at rfl hR0.ho) (rfl) (c_ringBell (c_perform 201) (by omega) ho0 hR0 hj (by omega)) (fun r33 h33 hp => ?_)
      obtain ⟨rfl, hR1, hf1, -⟩ := hp
      refine w_callV aX3_ring_36 t_3_84 (this_at rfl hR1.ho) (rfl) (c_rqa (by omega) (g1.1 ho0) hR1) (fun r36 h36 hp => ?_)
      obtain ⟨rfl, hR2, hf2⟩ := hp
      refine w_callV aX3_ring_39 t_3_87 (this_at rfl hR2.ho) (rfl) (c_answerOfCall hR2) (fun r39 h39 hp => ?_)
      obtain ⟨rfl, hR3, hf3⟩ := hp
      refine w_iret aX3_ring_42 rfl ?_
      exact ⟨rfl, hR3, (((fr.rf.up (Or.inl (by omega))).tr hf1).tr hf2).tr (hf3.mono (fun _ z => z.1))⟩
    · rw [if_pos (k2_le c17)]
      refine w_bipush (v := -3) (q := 22) aX3_ring_20 rfl rfl ?_
      refine w_iret aX3_ring_22 rfl ?_
      exact ⟨rfl, hR, fr.rf⟩
  · rw [if_neg (bz_eq0 c4)]
    refine w_bipush (v := -2) (q := 9) aX3_ring_7 rfl rfl ?_
    refine w_iret aX3_ring_9 rfl ?_
    exact ⟨rfl, hR, fr.rf⟩
theorem c_drain {F : Nat} (hF : 620 ≤ F) {h : mm_H} {S : St} (ho : Ok S) (hR : RC S h) : mW none F mX3_drain 0 [(0, .ref 1)] [] h (gP (p_drain S) h) := by
  obtain ⟨G, rfl⟩ : ∃ G, F = G + 2 := ⟨F - 2, by omega⟩
  unfold p_drain
  refine w_aload_n (q := 1) aX3_drain_0 rfl rfl ?_
  refine w_get (q := 4) aX3_drain_1 f_3_74 (hR.ho) rfl rfl ?_
  refine w_sipush (v := 2000) (q := 7) aX3_drain_4 rfl rfl ?_
  refine w_ic_lt (t := 13) (q := 10) aX3_drain_7 (by decide) rfl (fun c7 => ?_) (fun c7 => ?_)
  · rw [if_neg (fun z => k2_nlt z c7)]
    refine w_aload_n (q := 14) aX3_drain_13 rfl rfl ?_
    refine w_iconst (v := 0) (q := 15) aX3_drain_14 rfl rfl ?_
    refine w_put (q := 18) (fs' := [_, _, _, _, _, _, _, _, _, _, _, _, _, _, _, _, _]) aX3_drain_15 f_3_77 (hR.ho) (Nat.le_of_ble_eq_true rfl) rfl rfl (Or.inl rfl) rfl rfl ?_
    have hR0 := hR.s0
    have ho0 := ho.s0
    refine w_aload_n (q := 19) aX3_drain_18 rfl rfl ?_
    refine w_aload_n (q := 20) aX3_drain_19 rfl rfl ?_
    refine w_iconst (v := 0) (q := 21) aX3_drain_20 rfl rfl ?_
    refine w_callV aX3_drain_21 t_3_84 (this_at rfl hR0.ho) (rfl) (c_rqa (by omega) ho0 hR0) (fun r21 h21 hp => ?_)
    obtain ⟨rfl, hR2, hf2⟩ := hp
    refine w_callV aX3_drain_24 t_3_87 (this_at rfl hR2.ho) (rfl) (c_answerOfCall hR2) (fun r24 h24 hp => ?_)
    obtain ⟨rfl, hR3, hf3⟩ := hp
    refine w_iret aX3_drain_27 rfl ?_
    exact ⟨rfl, hR3, ((fr.rf.up (Or.inl (by omega))).tr hf2).tr (hf3.mono (fun _ z => z.1))⟩
  · rw [if_pos (k2_le c7)]
    refine w_bipush (v := -3) (q := 12) aX3_drain_10 rfl rfl ?_
    refine w_iret aX3_drain_12 rfl ?_
    exact ⟨rfl, hR, fr.rf⟩
theorem c_act {F : Nat} (hF : 620 ≤ F) {h : mm_H} {S : St} {x : Int32} {v : Int64} (ho : Ok S) (hR : RC S h) : mW none F mX3_act 0 [(0, .ref 1), (1, .int x), (2, .long v)] [] h (gP (p_do S x v) h) := by
  obtain ⟨G, rfl⟩ : ∃ G, F = G + 2 := ⟨F - 2, by omega⟩
  have hM := ho.1
  unfold p_do
  refine w_aload_n (q := 1) aX3_act_0 rfl rfl ?_
  refine w_iload_n (q := 2) aX3_act_1 rfl rfl ?_
  refine w_callV aX3_act_2 t_3_64 (this_at rfl hR.ho) (rfl) (c_isHearer hR) (fun r2 h2 hp => ?_)
  obtain ⟨rfl, rfl⟩ := hp
  refine w_if_ne (t := 11) (q := 8) aX3_act_5 (by decide) rfl (fun c5 => ?_) (fun c5 => ?_)
  · have hb := bz_ne0 c5
    rw [if_pos hb]
    obtain ⟨j, hj, rfl⟩ := rN_of (by omega) hb
    rw [nI_clamp (by omega)]
    refine w_aload_n (q := 12) aX3_act_11 rfl rfl ?_
    refine w_get (q := 15) aX3_act_12 f_3_74 (hR.ho) rfl rfl ?_
    refine w_sipush (v := 2000) (q := 18) aX3_act_15 rfl rfl ?_
    refine w_ic_lt (t := 24) (q := 21) aX3_act_18 (by decide) rfl (fun c18 => ?_) (fun c18 => ?_)
    · rw [if_neg (fun z => k2_nlt z c18)]
      refine w_aload_n (q := 25) aX3_act_24 rfl rfl ?_
      refine w_iconst (v := 0) (q := 26) aX3_act_25 rfl rfl ?_
      refine w_put (q := 29) (fs' := [_, _, _, _, _, _, _, _, _, _, _, _, _, _, _, _, _]) aX3_act_26 f_3_77 (hR.ho) (Nat.le_of_ble_eq_true rfl) rfl rfl (Or.inl rfl) rfl rfl ?_
      have hR0 := hR.s0
      have ho0 := ho.s0
      have g1 := PfOk.perf 201 (uS S 0) (sH S j) v ho0 (ho.2.1 j)
      refine w_aload_n (q := 30) aX3_act_29 rfl rfl ?_
      refine w_aload_n (q := 31) aX3_act_30 rfl rfl ?_
      refine w_aload_n (q := 32) aX3_act_31 rfl rfl ?_
      refine w_aload_n (q := 33) aX3_act_32 rfl rfl ?_
      refine w_get (q := 36) aX3_act_33 f_3_32 (hR0.ho) rfl rfl ?_
      refine w_iload_n (q := 37) aX3_act_36 rfl rfl ?_
      refine w_aald (q := 38) aX3_act_37 (hR0.ha) (by decide) (mm_ix_at (n := j) rfl (by omega) (rg_at (by omega))) rfl ?_
      refine w_lload_n (q := 39) aX3_act_38 rfl rfl ?_
      refine w_callV aX3_act_39 t_3_90 (this_at rfl hR0.ho) (call3 (by decide) (Nat.le_of_ble_eq_true rfl)) ((by rw [lvA3]; exact c_perform 201 _ _ (uS S 0) (sH S j) v (by omega) ho0 hR0 (ho.2.1 j) (by omega))) (fun r39 h39 hp => ?_)
      obtain ⟨rfl, hR1, hf1, -⟩ := hp
      refine w_callS aX3_act_42 x_3_94 t_3_94 (rfl) (c_wellIfStopped) (fun r42 h42 hp => ?_)
      obtain ⟨rfl, rfl⟩ := hp
      refine w_callV aX3_act_45 t_3_84 (this_at rfl hR1.ho) (rfl) (c_rqa (by omega) (g1.1 ho0) hR1) (fun r45 h45 hp => ?_)
      obtain ⟨rfl, hR2, hf2⟩ := hp
      refine w_callV aX3_act_48 t_3_87 (this_at rfl hR2.ho) (rfl) (c_answerOfCall hR2) (fun r48 h48 hp => ?_)
      obtain ⟨rfl, hR3, hf3⟩ := hp
      refine w_iret aX3_act_51 rfl ?_
      exact ⟨rfl, hR3, (((fr.rf.up (Or.inl (by omega))).tr hf1).tr hf2).tr (hf3.mono (fun _ z => z.1))⟩
    · rw [if_pos (k2_le c18)]
      refine w_bipush (v := -3) (q := 23) aX3_act_21 rfl rfl ?_
      refine w_iret aX3_act_23 rfl ?_
      exact ⟨rfl, hR, fr.rf⟩
  · rw [if_neg (bz_eq0 c5)]
    refine w_bipush (v := -2) (q := 10) aX3_act_8 rfl rfl ?_
    refine w_iret aX3_act_10 rfl ?_
    exact ⟨rfl, hR, fr.rf⟩
