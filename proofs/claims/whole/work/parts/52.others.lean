/-- what holds when others are done: the cells at the act's beginning, the rest as it was before -/
def Bg (S : St) (k : Nat) (v : Int64) (P : List Fr) (w : Raw) (h : mm_H) : Prop := hM (m_begin S k) P.length (0, 0, -1, v) w h ∧ rLn S w.1 ∧ rTi S w.2.1 ∧ rQu S w.2.2.1 w.2.2.2.1 ∧ rPi P w
theorem Bg.rm {S : St} {k : Nat} {v : Int64} {P : List Fr} {w : Raw} {h : mm_H} (b : Bg S k v P w h) (h8 : ¬ (sA S k).1 = 8) (h9 : ¬ (sA S k).1 = 9) : RM (m_begin S k) P (0, 0, -1, v) h := ⟨w, b.1, b.2.1, b.2.2.1.begin h8 h9, b.2.2.2⟩
def doP (q : St × List Fr × Xs) (h : mm_H) : Option Value → mm_H → Prop := fun r h' => r = none ∧ RM q.1 q.2.1 q.2.2 h' ∧ fr AM h h'
theorem l_cut {F : Nat} {S : St} {P : List Fr} {X : Xs} {x b : Int32} {kk : Int32} {v : Int64} {h0 : mm_H} : ∀ (m k : Nat) (h : mm_H), m + k = 6 → RM (uL S (cutL (sL S) x k)) P X h → fr AM h0 h → mW none (F + 2) mX4_doesOthers 214 [(6, .int (nI k)), (5, .int b), (4, .int x), (0, .ref 32), (1, .int kk), (2, .long v)] [] h (doP (uL S (cutL (sL S) x 6), P, X) h0) := by
  intro m
  induction m with
  | zero =>
    intro k h hk hR hf
    obtain rfl : k = 6 := by omega
    refine w_iload (q := 216) aX4_doesOthers_214 rfl rfl ?_
    refine w_bipush (v := 6) (q := 218) aX4_doesOthers_216 rfl rfl ?_
    refine w_ic_ge (t := 237) (q := 221) aX4_doesOthers_218 (by decide) rfl (fun c218 => ?_) (fun c218 => ?_)
    · refine w_goto (t := 280) aX4_doesOthers_237 (by decide) ?_
      refine w_vret aX4_doesOthers_280 rfl ?_
      exact ⟨rfl, hR, hf⟩
    · exact absurd (by decide) c218
  | succ m ih =>
    intro k h hk hR hf
    refine w_iload (q := 216) aX4_doesOthers_214 rfl rfl ?_
    refine w_bipush (v := 6) (q := 218) aX4_doesOthers_216 rfl rfl ?_
    refine w_ic_ge (t := 237) (q := 221) aX4_doesOthers_218 (by decide) rfl (fun c218 => ?_) (fun c218 => ?_)
    · exact absurd c218 (nI_ge (b := 6) (by omega) (by omega))
    · obtain ⟨w, hm, hr⟩ := hR
      refine w_aload_n (q := 222) aX4_doesOthers_221 rfl rfl ?_
      refine w_iload (q := 224) aX4_doesOthers_222 rfl rfl ?_
      refine w_iload (q := 226) aX4_doesOthers_224 rfl rfl ?_
      refine w_callV aX4_doesOthers_226 t_4_117 (this_at rfl (hm 32 (by decide) (by decide))) (rfl) (d_out (b := k) (by omega) ⟨w, hm, hr⟩) (fun r226 h226 hp => ?_)
      obtain ⟨rfl, hR2, hf2⟩ := hp
      refine w_istore (q := 231) (ls' := [(7, _), (6, _), (5, _), (4, _), (0, _), (1, _), (2, _)]) aX4_doesOthers_229 (by decide) rfl rfl ?_
      refine w_iinc (q := 234) (ls' := [(6, _), (7, _), (5, _), (4, _), (0, _), (1, _), (2, _)]) aX4_doesOthers_231 rfl rfl (by decide) rfl rfl ?_
      refine w_goto (t := 214) aX4_doesOthers_234 (by decide) ?_
      have e : fu (sL (uL S (cutL (sL S) x k))) k ((sL (uL S (cutL (sL S) x k)) k).erase x) = cutL (sL S) x (k + 1) := by
        funext j
        show fu (cutL (sL S) x k) k ((cutL (sL S) x k k).erase x) j = _
        unfold cutL
        by_cases e : j = k
        · subst e
          rw [fu_s, if_neg (by omega), if_pos (by omega)]
        · rw [fu_n e]
          by_cases e2 : j < k
          · rw [if_pos e2, if_pos (by omega)]
          · rw [if_neg e2, if_neg (by omega)]
      rw [e] at hR2
      rw [show nI k + Int32.ofInt 1 = nI (k + 1) from nI_1 k]
      exact (ih (k + 1) h226 (by omega) hR2 (hf.tr hf2)).ls (Rl.cons (Rl.cons (Rl.cons (Rl.cons (Rl.cons (Rl.cons Rl.nil rfl) rfl) rfl) rfl) rfl) rfl)
set_option maxHeartbeats 1000000 in
theorem d_doesOthers {F : Nat} {h : mm_H} {S : St} {P : List Fr} {k s : Nat} {v : Int64} {w : Raw} (hk : k < sM S) (ho : Ok S) (hs : (sA S k).1 = nI s) (h8 : 8 ≤ s) (h15 : s < 15) (hb : sB S k + 1 < 2 ^ 31) (hn : P.length < 600) (B : Bg S k v P w h) : mW none (F + 2) mX4_doesOthers 0 [(0, .ref 32), (1, .int (nI k)), (2, .long v)] [] h (doP (r_do s (m_begin S k) k (sA S k) v P) h) := by
  have hM40 := ho.1
  have hA := ho.2.2.1 k hk
  have hcan := hA.1
  rw [hs] at hcan
  obtain ⟨hm, r1, r2, r3, r4⟩ := B
  have hone : ∀ q, (sA S k).2.2.2.2.1 = some q → q < 2 ^ 31 := fun q hq => by have := hA.2.1 q hq; omega
  have g37 : (if k < sM (m_begin S k) then (sA (m_begin S k) k).1 else 0) = (sA S k).1 := if_pos hk
  have g38 : (if k < sM (m_begin S k) then (sA (m_begin S k) k).2.1 else 0) = (sA S k).2.1 := if_pos hk
  have g39 : (if k < sM (m_begin S k) then (sA (m_begin S k) k).2.2.1 else 0) = (sA S k).2.2.1 := if_pos hk
  have g41 : (if k < sM (m_begin S k) then oI (sA (m_begin S k) k).2.2.2.2.1 else 0) = oI (sA S k).2.2.2.2.1 := if_pos hk
  have g42 : (if k < sM (m_begin S k) then oI (sA (m_begin S k) k).2.2.2.2.2 else 0) = oI (sA S k).2.2.2.2.2 := if_pos hk
  refine w_aload_n (q := 1) aX4_doesOthers_0 rfl rfl ?_
  refine w_get (q := 4) aX4_doesOthers_1 f_4_26 (hm 32 (by decide) (by decide)) rfl rfl ?_
  refine w_iload_n (q := 5) aX4_doesOthers_4 rfl rfl ?_
  refine w_iald (q := 6) aX4_doesOthers_5 (by decide) (hm 38 (by decide) (by decide)) (mm_ix_at (n := k) rfl (by omega) (rg_at (by omega))) rfl ?_
  rw [g38]
  refine w_istore (q := 8) (ls' := [(4, _), (0, _), (1, _), (2, _)]) aX4_doesOthers_6 (by decide) rfl rfl ?_
  refine w_aload_n (q := 9) aX4_doesOthers_8 rfl rfl ?_
  refine w_get (q := 12) aX4_doesOthers_9 f_4_29 (hm 32 (by decide) (by decide)) rfl rfl ?_
  refine w_iload_n (q := 13) aX4_doesOthers_12 rfl rfl ?_
  refine w_iald (q := 14) aX4_doesOthers_13 (by decide) (hm 39 (by decide) (by decide)) (mm_ix_at (n := k) rfl (by omega) (rg_at (by omega))) rfl ?_
  rw [g39]
  refine w_istore (q := 16) (ls' := [(5, _), (4, _), (0, _), (1, _), (2, _)]) aX4_doesOthers_14 (by decide) rfl rfl ?_
  refine w_aload_n (q := 17) aX4_doesOthers_16 rfl rfl ?_
  refine w_get (q := 20) aX4_doesOthers_17 f_4_23 (hm 32 (by decide) (by decide)) rfl rfl ?_
  refine w_iload_n (q := 21) aX4_doesOthers_20 rfl rfl ?_
  refine w_iald (q := 22) aX4_doesOthers_21 (by decide) (hm 37 (by decide) (by decide)) (mm_ix_at (n := k) rfl (by omega) (rg_at (by omega))) rfl ?_
  rw [g37, hs]
  have hcs : s = 8 ∨ s = 9 ∨ s = 10 ∨ s = 11 ∨ s = 12 ∨ s = 13 ∨ s = 14 := by omega
  rcases hcs with rfl | rfl | rfl | rfl | rfl | rfl | rfl
  · rw [r_do_8]
    have ht := rTm_first hs hb (r2 k hk)
    have eB : sB (m_begin S k) k = sB S k + 1 := fu_s
    rw [eB]
    refine w_table (t := 60) (o := 38) aX4_doesOthers_22 (by skip; decide) (by skip; decide) (by skip; rfl) (by decide) ?_
    refine w_aload_n (q := 61) aX4_doesOthers_60 rfl rfl ?_
    refine w_get (q := 64) aX4_doesOthers_61 f_4_41 (hm 32 (by decide) (by decide)) rfl rfl ?_
    refine w_iload_n (q := 65) aX4_doesOthers_64 rfl rfl ?_
    refine w_iald (q := 66) aX4_doesOthers_65 (by decide) (hm 43 (by decide) (by decide)) (mm_ix_at (n := k) rfl (by omega) (rg_at (by omega))) rfl ?_
    refine w_iload (q := 68) aX4_doesOthers_66 rfl rfl ?_
    refine w_ic_ge (t := 280) (q := 71) aX4_doesOthers_68 (by decide) rfl (fun c68 => ?_) (fun c68 => ?_)
    · have hlt := Int32.not_lt.mpr c68
      rw [if_neg (fun z => hlt (ht.1.mpr z))]
      refine w_vret aX4_doesOthers_280 rfl ?_
      exact ⟨rfl, ⟨w, hm, r1, r2.beginS (ht.2.2 hlt), r3, r4⟩, fr.rf⟩
    · have hlt := Int32.not_le.mp c68
      rw [if_pos (ht.1.mp hlt)]
      refine w_aload_n (q := 72) aX4_doesOthers_71 rfl rfl ?_
      refine w_get (q := 75) aX4_doesOthers_72 f_4_41 (hm 32 (by decide) (by decide)) rfl rfl ?_
      refine w_iload_n (q := 76) aX4_doesOthers_75 rfl rfl ?_
      refine w_dup2 (q := 77) aX4_doesOthers_76 ⟨rfl, rfl⟩ rfl ?_
      refine w_iald (q := 78) aX4_doesOthers_77 (by decide) (hm 43 (by decide) (by decide)) (mm_ix_at (n := k) rfl (by omega) (rg_at (by omega))) rfl ?_
      refine w_iconst (v := 1) (q := 79) aX4_doesOthers_78 rfl rfl ?_
      refine w_iadd (q := 80) aX4_doesOthers_79 rfl ?_
      refine w_iast (q := 81) (n := k) (vs' := _) aX4_doesOthers_80 (hm 43 (by decide) (by decide)) (rfl) (by rw [rg_len]; omega) (by rw [rg_len]; omega) (rg_set _ _ _ _) rfl ?_
      have e43 : fu (fun j => Value.int (w.2.1 j)) k (.int (w.2.1 k + 1)) = fun j => Value.int (fu w.2.1 k (w.2.1 k + 1) j) := fu_map Value.int _ _ _
      have hm2 : hM (m_begin S k) P.length (0, 0, -1, v) (w.1, fu w.2.1 k (w.2.1 k + 1), w.2.2) (mm_up h 43 (5, rg 40 (fu (fun j => Value.int (w.2.1 j)) k (.int (w.2.1 k + 1))))) := by
        intro q h1 h2
        rcases q23 q h1 h2 with rfl | rfl | rfl | rfl | rfl | rfl | rfl | rfl | rfl | rfl | rfl | rfl | rfl | rfl | rfl | rfl | rfl | rfl | rfl | rfl | rfl | rfl | rfl <;> first | exact hm _ h1 h2 | exact congrArg (fun z => some ((5 : Nat), rg 40 z)) e43 |  rfl
      have hR2 : RM (m_begin S k) P (0, 0, -1, v) (mm_up h 43 (5, rg 40 (fu (fun j => Value.int (w.2.1 j)) k (.int (w.2.1 k + 1))))) := ⟨(w.1, fu w.2.1 k (w.2.1 k + 1), w.2.2), hm2, r1, r2.beginT (ht.2.1 hlt), r3, r4⟩
      refine w_aload_n (q := 82) aX4_doesOthers_81 rfl rfl ?_
      refine w_aload_n (q := 83) aX4_doesOthers_82 rfl rfl ?_
      refine w_get (q := 86) aX4_doesOthers_83 f_4_35 (hm2 32 (by decide) (by decide)) rfl rfl ?_
      refine w_iload_n (q := 87) aX4_doesOthers_86 rfl rfl ?_
      refine w_iald (q := 88) aX4_doesOthers_87 (by decide) (hm2 41 (by decide) (by decide)) (mm_ix_at (n := k) rfl (by omega) (rg_at (by omega))) rfl ?_
      rw [g41]
      refine w_lload_n (q := 89) aX4_doesOthers_88 rfl rfl ?_
      refine w_callV aX4_doesOthers_89 t_4_157 (this_at rfl (hm2 32 (by decide) (by decide))) (rfl) (d_begins hone hR2) (fun r89 h89 hp => ?_)
      obtain ⟨rfl, hR3, hf3⟩ := hp
      refine w_goto (t := 280) aX4_doesOthers_92 (by decide) ?_
      refine w_vret aX4_doesOthers_280 rfl ?_
      exact ⟨rfl, hR3, (fr.rf.up (AM_l (by omega))).tr hf3⟩
  · rw [r_do_9]
    have ht := rTm_each hs hb (r2 k hk)
    have eB : sB (m_begin S k) k = sB S k + 1 := fu_s
    rw [eB]
    refine w_table (t := 95) (o := 73) aX4_doesOthers_22 (by skip; decide) (by skip; decide) (by skip; rfl) (by decide) ?_
    refine w_aload_n (q := 96) aX4_doesOthers_95 rfl rfl ?_
    refine w_get (q := 99) aX4_doesOthers_96 f_4_41 (hm 32 (by decide) (by decide)) rfl rfl ?_
    refine w_iload_n (q := 100) aX4_doesOthers_99 rfl rfl ?_
    refine w_dup2 (q := 101) aX4_doesOthers_100 ⟨rfl, rfl⟩ rfl ?_
    refine w_iald (q := 102) aX4_doesOthers_101 (by decide) (hm 43 (by decide) (by decide)) (mm_ix_at (n := k) rfl (by omega) (rg_at (by omega))) rfl ?_
    refine w_iconst (v := 1) (q := 103) aX4_doesOthers_102 rfl rfl ?_
    refine w_iadd (q := 104) aX4_doesOthers_103 rfl ?_
    refine w_iast (q := 105) (n := k) (vs' := _) aX4_doesOthers_104 (hm 43 (by decide) (by decide)) (rfl) (by rw [rg_len]; omega) (by rw [rg_len]; omega) (rg_set _ _ _ _) rfl ?_
    have e43 : fu (fun j => Value.int (w.2.1 j)) k (.int (w.2.1 k + 1)) = fun j => Value.int (fu w.2.1 k (w.2.1 k + 1) j) := fu_map Value.int _ _ _
    have hm2 : hM (m_begin S k) P.length (0, 0, -1, v) (w.1, fu w.2.1 k (w.2.1 k + 1), w.2.2) (mm_up h 43 (5, rg 40 (fu (fun j => Value.int (w.2.1 j)) k (.int (w.2.1 k + 1))))) := by
      intro q h1 h2
      rcases q23 q h1 h2 with rfl | rfl | rfl | rfl | rfl | rfl | rfl | rfl | rfl | rfl | rfl | rfl | rfl | rfl | rfl | rfl | rfl | rfl | rfl | rfl | rfl | rfl | rfl <;> first | exact hm _ h1 h2 | exact congrArg (fun z => some ((5 : Nat), rg 40 z)) e43 |  rfl
    have hf2 : fr AM h (mm_up h 43 (5, rg 40 (fu (fun j => Value.int (w.2.1 j)) k (.int (w.2.1 k + 1))))) := fr.rf.up (AM_l (by omega))
    generalize mm_up h 43 (5, rg 40 (fu (fun j => Value.int (w.2.1 j)) k (.int (w.2.1 k + 1)))) = h2 at hm2 hf2
    refine w_aload_n (q := 106) aX4_doesOthers_105 rfl rfl ?_
    refine w_get (q := 109) aX4_doesOthers_106 f_4_41 (hm2 32 (by decide) (by decide)) rfl rfl ?_
    refine w_iload_n (q := 110) aX4_doesOthers_109 rfl rfl ?_
    refine w_iald (q := 111) aX4_doesOthers_110 (by decide) (hm2 43 (by decide) (by decide)) (mm_ix_at (n := k) rfl (by omega) (rg_at (by omega))) rfl ?_
    rw [show ((w.1, fu w.2.1 k (w.2.1 k + 1), w.2.2) : Raw).2.1 k = w.2.1 k + 1 from fu_s]
    refine w_iload (q := 113) aX4_doesOthers_111 rfl rfl ?_
    refine w_ic_lt (t := 280) (q := 116) aX4_doesOthers_113 (by decide) rfl (fun c113 => ?_) (fun c113 => ?_)
    · rw [if_neg (fun z => ht.1.mpr z c113)]
      refine w_vret aX4_doesOthers_280 rfl ?_
      exact ⟨rfl, ⟨(w.1, fu w.2.1 k (w.2.1 k + 1), w.2.2), hm2, r1, r2.beginT (ht.2.1 c113), r3, r4⟩, hf2⟩
    · rw [if_pos (ht.1.mp c113)]
      refine w_aload_n (q := 117) aX4_doesOthers_116 rfl rfl ?_
      refine w_get (q := 120) aX4_doesOthers_117 f_4_41 (hm2 32 (by decide) (by decide)) rfl rfl ?_
      refine w_iload_n (q := 121) aX4_doesOthers_120 rfl rfl ?_
      refine w_iconst (v := 0) (q := 122) aX4_doesOthers_121 rfl rfl ?_
      refine w_iast (q := 123) (n := k) (vs' := _) aX4_doesOthers_122 (hm2 43 (by decide) (by decide)) (rfl) (by rw [rg_len]; omega) (by rw [rg_len]; omega) (rg_set _ _ _ _) rfl ?_
      have e43 : fu (fun j => Value.int (fu w.2.1 k (w.2.1 k + 1) j)) k (.int 0) = fun j => Value.int (fu w.2.1 k 0 j) := by
        rw [fu_map Value.int]
        funext j
        unfold fu
        split <;> rfl
      have hm3 : hM (m_begin S k) P.length (0, 0, -1, v) (w.1, fu w.2.1 k 0, w.2.2) (mm_up h2 43 (5, rg 40 (fu (fun j => Value.int (fu w.2.1 k (w.2.1 k + 1) j)) k (.int 0)))) := by
        intro q h1 h2
        rcases q23 q h1 h2 with rfl | rfl | rfl | rfl | rfl | rfl | rfl | rfl | rfl | rfl | rfl | rfl | rfl | rfl | rfl | rfl | rfl | rfl | rfl | rfl | rfl | rfl | rfl <;> first | exact hm2 _ h1 h2 | exact congrArg (fun z => some ((5 : Nat), rg 40 z)) e43 |  rfl
      have hR3 : RM (m_begin S k) P (0, 0, -1, v) (mm_up h2 43 (5, rg 40 (fu (fun j => Value.int (fu w.2.1 k (w.2.1 k + 1) j)) k (.int 0)))) := ⟨(w.1, fu w.2.1 k 0, w.2.2), hm3, r1, r2.beginT (ht.2.2 c113), r3, r4⟩
      refine w_aload_n (q := 124) aX4_doesOthers_123 rfl rfl ?_
      refine w_aload_n (q := 125) aX4_doesOthers_124 rfl rfl ?_
      refine w_get (q := 128) aX4_doesOthers_125 f_4_35 (hm3 32 (by decide) (by decide)) rfl rfl ?_
      refine w_iload_n (q := 129) aX4_doesOthers_128 rfl rfl ?_
      refine w_iald (q := 130) aX4_doesOthers_129 (by decide) (hm3 41 (by decide) (by decide)) (mm_ix_at (n := k) rfl (by omega) (rg_at (by omega))) rfl ?_
      rw [g41]
      refine w_lload_n (q := 131) aX4_doesOthers_130 rfl rfl ?_
      refine w_callV aX4_doesOthers_131 t_4_157 (this_at rfl (hm3 32 (by decide) (by decide))) (rfl) (d_begins hone hR3) (fun r131 h131 hp => ?_)
      obtain ⟨rfl, hR4, hf4⟩ := hp
      refine w_goto (t := 280) aX4_doesOthers_134 (by decide) ?_
      refine w_vret aX4_doesOthers_280 rfl ?_
      exact ⟨rfl, hR4, (hf2.up (AM_l (by omega))).tr hf4⟩
  · rw [r_do_10]
    have hR : RM (m_begin S k) P (0, 0, -1, v) h := ⟨w, hm, r1, r2.begin (by rw [hs]; decide) (by rw [hs]; decide), r3, r4⟩
    obtain ⟨t, ht, et⟩ := rN_of (by omega) (can_10.mpr hcan).2
    rw [et, nI_clamp (by omega)]
    refine w_table (t := 137) (o := 115) aX4_doesOthers_22 (by skip; decide) (by skip; decide) (by skip; rfl) (by decide) ?_
    refine w_aload_n (q := 138) aX4_doesOthers_137 rfl rfl ?_
    refine w_get (q := 141) aX4_doesOthers_138 f_4_7 (hm 32 (by decide) (by decide)) rfl rfl ?_
    refine w_iload (q := 143) aX4_doesOthers_141 rfl rfl ?_
    refine w_lald (q := 144) aX4_doesOthers_143 (hm 33 (by decide) (by decide)) (mm_ix_at (n := t) rfl (by omega) (rg_at ht)) rfl ?_
    refine w_lconst (v := 0) (q := 145) aX4_doesOthers_144 rfl rfl ?_
    refine w_lcmp (q := 146) aX4_doesOthers_145 rfl ?_
    refine w_if_le (t := 280) (q := 149) aX4_doesOthers_146 (by decide) rfl (fun c146 => ?_) (fun c146 => ?_)
    · rw [if_neg (fun z => Int32.not_le.mpr ((lg_cmp_gt _ _).mpr z) c146)]
      refine w_vret aX4_doesOthers_280 rfl ?_
      exact ⟨rfl, hR, fr.rf⟩
    · rw [if_pos ((lg_cmp_gt _ _).mp (Int32.not_le.mp c146))]
      refine w_aload_n (q := 150) aX4_doesOthers_149 rfl rfl ?_
      refine w_aload_n (q := 151) aX4_doesOthers_150 rfl rfl ?_
      refine w_get (q := 154) aX4_doesOthers_151 f_4_35 (hm 32 (by decide) (by decide)) rfl rfl ?_
      refine w_iload_n (q := 155) aX4_doesOthers_154 rfl rfl ?_
      refine w_iald (q := 156) aX4_doesOthers_155 (by decide) (hm 41 (by decide) (by decide)) (mm_ix_at (n := k) rfl (by omega) (rg_at (by omega))) rfl ?_
      rw [g41]
      refine w_lload_n (q := 157) aX4_doesOthers_156 rfl rfl ?_
      refine w_callV aX4_doesOthers_157 t_4_157 (this_at rfl (hm 32 (by decide) (by decide))) (rfl) (d_begins hone hR) (fun r157 h157 hp => ?_)
      obtain ⟨rfl, hR3, hf3⟩ := hp
      refine w_goto (t := 280) aX4_doesOthers_160 (by decide) ?_
      refine w_vret aX4_doesOthers_280 rfl ?_
      exact ⟨rfl, hR3, hf3⟩
  · rw [r_do_11]
    have r2' := r2.begin (k := k) (by rw [hs]; decide) (by rw [hs]; decide)
    refine w_table (t := 163) (o := 141) aX4_doesOthers_22 (by skip; decide) (by skip; decide) (by skip; rfl) (by decide) ?_
    refine w_aload_n (q := 164) aX4_doesOthers_163 rfl rfl ?_
    refine w_iconst (v := 2) (q := 165) aX4_doesOthers_164 rfl rfl ?_
    refine w_aload_n (q := 166) aX4_doesOthers_165 rfl rfl ?_
    refine w_get (q := 169) aX4_doesOthers_166 f_4_38 (hm 32 (by decide) (by decide)) rfl rfl ?_
    refine w_iload_n (q := 170) aX4_doesOthers_169 rfl rfl ?_
    refine w_iald (q := 171) aX4_doesOthers_170 (by decide) (hm 42 (by decide) (by decide)) (mm_ix_at (n := k) rfl (by omega) (rg_at (by omega))) rfl ?_
    rw [g42]
    refine w_lload_n (q := 172) aX4_doesOthers_171 rfl rfl ?_
    refine w_callV aX4_doesOthers_172 t_4_129 (this_at rfl (hm 32 (by decide) (by decide))) (rfl) (d_heap hn hm) (fun r172 h172 hp => ?_)
    obtain ⟨rfl, hm2, hf2⟩ := hp
    refine w_aload_n (q := 176) aX4_doesOthers_175 rfl rfl ?_
    refine w_aload_n (q := 177) aX4_doesOthers_176 rfl rfl ?_
    refine w_get (q := 180) aX4_doesOthers_177 f_4_35 (hm2 32 (by decide) (by decide)) rfl rfl ?_
    refine w_iload_n (q := 181) aX4_doesOthers_180 rfl rfl ?_
    refine w_iald (q := 182) aX4_doesOthers_181 (by decide) (hm2 41 (by decide) (by decide)) (mm_ix_at (n := k) rfl (by omega) (rg_at (by omega))) rfl ?_
    rw [g41]
    refine w_lload_n (q := 183) aX4_doesOthers_182 rfl rfl ?_
    refine w_callV aX4_doesOthers_183 t_4_157 (this_at rfl (hm2 32 (by decide) (by decide))) (rfl) (d_begins (S := m_begin S k) (u := v) (P := P ++ [(2, oI (sA S k).2.2.2.2.2, v, [], 0)]) hone ⟨hw w P.length 2 (oI (sA S k).2.2.2.2.2) v, by rw [List.length_append]; exact hm2, r1, r2', r3, r4.push (by decide)⟩) (fun r183 h183 hp => ?_)
    obtain ⟨rfl, hR3, hf3⟩ := hp
    refine w_goto (t := 280) aX4_doesOthers_186 (by decide) ?_
    refine w_vret aX4_doesOthers_280 rfl ?_
    exact ⟨rfl, hR3, hf2.tr hf3⟩
  · rw [r_do_12]
    have r2' := r2.begin (k := k) (by rw [hs]; decide) (by rw [hs]; decide)
    refine w_table (t := 189) (o := 167) aX4_doesOthers_22 (by skip; decide) (by skip; decide) (by skip; rfl) (by decide) ?_
    refine w_aload_n (q := 190) aX4_doesOthers_189 rfl rfl ?_
    refine w_iconst (v := 1) (q := 191) aX4_doesOthers_190 rfl rfl ?_
    refine w_iload (q := 193) aX4_doesOthers_191 rfl rfl ?_
    refine w_lload_n (q := 194) aX4_doesOthers_193 rfl rfl ?_
    refine w_callV aX4_doesOthers_194 t_4_129 (this_at rfl (hm 32 (by decide) (by decide))) (rfl) (d_heap hn hm) (fun r194 h194 hp => ?_)
    obtain ⟨rfl, hm2, hf2⟩ := hp
    refine w_aload_n (q := 198) aX4_doesOthers_197 rfl rfl ?_
    refine w_aload_n (q := 199) aX4_doesOthers_198 rfl rfl ?_
    refine w_get (q := 202) aX4_doesOthers_199 f_4_35 (hm2 32 (by decide) (by decide)) rfl rfl ?_
    refine w_iload_n (q := 203) aX4_doesOthers_202 rfl rfl ?_
    refine w_iald (q := 204) aX4_doesOthers_203 (by decide) (hm2 41 (by decide) (by decide)) (mm_ix_at (n := k) rfl (by omega) (rg_at (by omega))) rfl ?_
    rw [g41]
    refine w_lload_n (q := 205) aX4_doesOthers_204 rfl rfl ?_
    refine w_callV aX4_doesOthers_205 t_4_157 (this_at rfl (hm2 32 (by decide) (by decide))) (rfl) (d_begins (S := m_begin S k) (u := v) (P := P ++ [(1, (sA S k).2.2.1, v, [], 0)]) hone ⟨hw w P.length 1 (sA S k).2.2.1 v, by rw [List.length_append]; exact hm2, r1, r2', r3, r4.push (by decide)⟩) (fun r205 h205 hp => ?_)
    obtain ⟨rfl, hR3, hf3⟩ := hp
    refine w_goto (t := 280) aX4_doesOthers_208 (by decide) ?_
    refine w_vret aX4_doesOthers_280 rfl ?_
    exact ⟨rfl, hR3, hf2.tr hf3⟩
  · have hR : RM (m_begin S k) P (0, 0, -1, v) h := ⟨w, hm, r1, r2.begin (by rw [hs]; decide) (by rw [hs]; decide), r3, r4⟩
    refine w_table (t := 211) (o := 189) aX4_doesOthers_22 (by skip; decide) (by skip; decide) (by skip; rfl) (by decide) ?_
    refine w_iconst (v := 0) (q := 212) aX4_doesOthers_211 rfl rfl ?_
    refine w_istore (q := 214) (ls' := [(6, _), (5, _), (4, _), (0, _), (1, _), (2, _)]) aX4_doesOthers_212 (by decide) rfl rfl ?_
    have e : uL (m_begin S k) (cutL (sL (m_begin S k)) (sA S k).2.1 0) = m_begin S k := by
      have : cutL (sL (m_begin S k)) (sA S k).2.1 0 = sL (m_begin S k) := by
        funext j
        unfold cutL
        rw [if_neg (by omega)]
      rw [this]
      rfl
    exact l_cut (F := F) (S := m_begin S k) (h0 := h) 6 0 h rfl (by rw [e]; exact hR) fr.rf
  · have hR : RM (m_begin S k) P (0, 0, -1, v) h := ⟨w, hm, r1, r2.begin (by rw [hs]; decide) (by rw [hs]; decide), r3, r4⟩
    have e14 : r_do 14 (m_begin S k) k (sA S k) v P = ((m_al 14 (m_begin S k) (sA S k) v).2, P, Xe (m_al 14 (m_begin S k) (sA S k) v).1 v) := rfl
    rw [e14, m_al_14]
    obtain ⟨i, hi, ei⟩ := rN_of (by omega) (can_14.mpr hcan).2
    rw [ei, nI_clamp (by omega)]
    have hl12 : (sL (m_begin S k) i).length ≤ 12 := (r1 i hi).1
    refine w_tableD (t := 240) aX4_doesOthers_22 (by decide) (by decide) ?_
    refine w_aload_n (q := 241) aX4_doesOthers_240 rfl rfl ?_
    refine w_iload (q := 243) aX4_doesOthers_241 rfl rfl ?_
    refine w_iload (q := 245) aX4_doesOthers_243 rfl rfl ?_
    refine w_callV aX4_doesOthers_245 t_4_109 (this_at rfl (hm 32 (by decide) (by decide))) (rfl) (d_placeOf hi hm r1) (fun r245 h245 hp => ?_)
    obtain ⟨rfl, rfl⟩ := hp
    refine w_iconst (v := -1) (q := 249) aX4_doesOthers_248 rfl rfl ?_
    refine w_ic_ne (t := 280) (q := 252) aX4_doesOthers_249 (by decide) rfl (fun c249 => ?_) (fun c249 => ?_)
    · have hin : (sA S k).2.1 ∈ sL (m_begin S k) i := Classical.byContradiction fun z => c249 (pls_no z)
      rw [if_pos hin]
      refine w_vret aX4_doesOthers_280 rfl ?_
      exact ⟨rfl, hR, fr.rf⟩
    · have hin := (pls_m1 (by omega)).mp c249
      rw [if_neg hin]
      refine w_aload_n (q := 253) aX4_doesOthers_252 rfl rfl ?_
      refine w_get (q := 256) aX4_doesOthers_253 f_4_20 (hm 32 (by decide) (by decide)) rfl rfl ?_
      refine w_iload (q := 258) aX4_doesOthers_256 rfl rfl ?_
      refine w_iald (q := 259) aX4_doesOthers_258 (by decide) (hm 36 (by decide) (by decide)) (mm_ix_at (n := i) rfl (by omega) (rg_at (by omega))) rfl ?_
      refine w_bipush (v := 12) (q := 261) aX4_doesOthers_259 rfl rfl ?_
      refine w_ic_ne (t := 272) (q := 264) aX4_doesOthers_261 (by decide) rfl (fun c261 => ?_) (fun c261 => ?_)
      · have hne : ¬ (sL (m_begin S k) i).length = 12 := fun z => c261 (by rw [z]; rfl)
        rw [if_neg hne]
        refine w_aload_n (q := 273) aX4_doesOthers_272 rfl rfl ?_
        refine w_iload (q := 275) aX4_doesOthers_273 rfl rfl ?_
        refine w_iload (q := 277) aX4_doesOthers_275 rfl rfl ?_
        refine w_callV aX4_doesOthers_277 t_4_113 (this_at rfl (hm 32 (by decide) (by decide))) (rfl) (d_put hi (Nat.lt_of_le_of_ne hl12 hne) hin hR) (fun r277 h277 hp => ?_)
        obtain ⟨rfl, hR3, hf3⟩ := hp
        refine w_vret aX4_doesOthers_280 rfl ?_
        exact ⟨rfl, hR3, hf3⟩
      · have he : (sL (m_begin S k) i).length = 12 := (nI_iff (b := 12) (Nat.lt_of_le_of_lt hl12 (by omega)) (by omega)).mp c261
        rw [if_pos he]
        refine w_aload_n (q := 265) aX4_doesOthers_264 rfl rfl ?_
        refine w_iconst (v := 4) (q := 266) aX4_doesOthers_265 rfl rfl ?_
        refine w_put (q := 269) (fs' := [_, _, _, _, _, _, _, _, _, _, _, _, _, _, _, _, _, _, _, _, _, _, _, _, _, _, _, _, _, _, _]) aX4_doesOthers_266 f_4_126 (hm 32 (by decide) (by decide)) (Nat.le_of_ble_eq_true rfl) rfl rfl (Or.inl rfl) rfl rfl ?_
        refine w_goto (t := 280) aX4_doesOthers_269 (by decide) ?_
        refine w_vret aX4_doesOthers_280 rfl ?_
        refine ⟨rfl, ⟨w, ?_, r1, r2.begin (by rw [hs]; decide) (by rw [hs]; decide), r3, r4⟩, fr.rf.up (AM_l (by omega))⟩
        intro q h1 h2
        rcases q23 q h1 h2 with rfl | rfl | rfl | rfl | rfl | rfl | rfl | rfl | rfl | rfl | rfl | rfl | rfl | rfl | rfl | rfl | rfl | rfl | rfl | rfl | rfl | rfl | rfl <;> first | exact hm _ h1 h2 |  rfl
