/-- from this the loop of works comes to the end Po -/
def WkP (F : Nat) (h0 : mm_H) (Po : Option Value → mm_H → Prop) (S : St) (P : List Fr) (X : Xs) : Prop := ∀ h, RM S P X h → fr AM h0 h → mW none (F + 4) mX4_works 2 [(1, .int 1), (0, .ref 32)] [] h Po
/-- with this end at this pile it comes to the end Po -/
def Zk (F : Nat) (h0 : mm_H) (Po : Option Value → mm_H → Prop) (S : St) (Q : List Fr) (e : Int32) : Prop :=
  if e = 0 then ∀ u, WkP F h0 Po S Q.reverse (0, 0, -1, u)
  else if e = 7 then ∀ u, WkP F h0 Po (r_stop Q S).1 (r_stop Q S).2.reverse (0, 0, -1, u)
  else if (r_fails Q S e).1 = 0 then ∀ u, WkP F h0 Po (r_fails Q S e).2.1 (r_fails Q S e).2.2.reverse (0, 0, -1, u)
  else ∀ u h, RM (r_fails Q S e).2.1 (r_fails Q S e).2.2.reverse ((r_fails Q S e).1, 0, -1, u) h → fr AM h0 h → Po none h
theorem x_works {F : Nat} {h : mm_H} {Po : Option Value → mm_H → Prop} (k : Po none h) : mW none F mX4_works 2 [(1, .int 0), (0, .ref 32)] [] h Po := by
  refine w_iload_n (q := 3) aX4_works_2 rfl rfl ?_
  refine w_if_eq (t := 98) (q := 6) aX4_works_3 (by decide) rfl (fun c3 => ?_) (fun c3 => ?_)
  · refine w_vret aX4_works_98 rfl ?_
    exact k
  · exact absurd rfl c3
theorem k_end {F N : Nat} {h0 : mm_H} {Po : Option Value → mm_H → Prop} {S : St} {Q : List Fr} {e : Int32} (he : er e) (hI : Iv N S Q) (hZ : Zk F h0 Po S Q e) (u : Int64) : WkP F h0 Po S Q.reverse (Xe e u) := by
  by_cases e0 : e = 0
  · subst e0
    unfold Zk at hZ
    rw [if_pos rfl] at hZ
    exact hZ u
  have hl : Q.length ≤ 600 := by
    have := hI.2.2.2.1
    have := hI.1.2.2.2.2.2.2
    omega
  by_cases e7 : e = 7
  · subst e7
    unfold Zk at hZ
    rw [if_neg e0, if_pos rfl] at hZ
    intro h hR hf
    have hR0 : RM S Q.reverse (0, 1, -1, u) h := hR
    obtain ⟨w, hm, hr⟩ := hR0
    refine w_iload_n (q := 3) aX4_works_2 rfl rfl ?_
    refine w_if_eq (t := 98) (q := 6) aX4_works_3 (by decide) rfl (fun c3 => ?_) (fun c3 => ?_)
    · exact absurd c3 (by decide)
    · refine w_aload_n (q := 7) aX4_works_6 rfl rfl ?_
      refine w_get (q := 10) aX4_works_7 f_4_126 (hm 32 (by decide) (by decide)) rfl rfl ?_
      refine w_if_eq (t := 50) (q := 13) aX4_works_10 (by decide) rfl (fun c10 => ?_) (fun c10 => ?_)
      · refine w_aload_n (q := 51) aX4_works_50 rfl rfl ?_
        refine w_get (q := 54) aX4_works_51 f_4_150 (hm 32 (by decide) (by decide)) rfl rfl ?_
        refine w_if_eq (t := 64) (q := 57) aX4_works_54 (by decide) rfl (fun c54 => ?_) (fun c54 => ?_)
        · exact absurd (show (1 : Int32) = 0 from c54) (by decide)
        · refine w_aload_n (q := 58) aX4_works_57 rfl rfl ?_
          refine w_callV aX4_works_58 t_4_163 (this_at rfl (hm 32 (by decide) (by decide))) (rfl) (d_stop hl (Nat.le_of_eq hI.2.2.1) ⟨w, hm, hr⟩) (fun r58 h58 hp => ?_)
          obtain ⟨rfl, hR2, hf2⟩ := hp
          refine w_goto (t := 2) aX4_works_61 (by decide) ?_
          exact hZ u _ hR2 (hf.tr hf2)
      · exact absurd rfl c10
  have he6 : e = 1 ∨ e = 2 ∨ e = 3 ∨ e = 4 ∨ e = 5 ∨ e = 6 := by
    rcases he with h | h | h | h | h | h | h | h
    · exact absurd h e0
    · exact Or.inl h
    · exact Or.inr (Or.inl h)
    · exact Or.inr (Or.inr (Or.inl h))
    · exact Or.inr (Or.inr (Or.inr (Or.inl h)))
    · exact Or.inr (Or.inr (Or.inr (Or.inr (Or.inl h))))
    · exact Or.inr (Or.inr (Or.inr (Or.inr (Or.inr h))))
    · exact absurd h e7
  unfold Zk at hZ
  rw [if_neg e0, if_neg e7] at hZ
  intro h hR hf
  have hR0 : RM S Q.reverse (e, 0, -1, u) h := by
    unfold Xe at hR
    rw [if_neg e7] at hR
    exact hR
  obtain ⟨w, hm, hr⟩ := hR0
  have t26 : ∀ y : Int32, (Q ≠ [] → ¬ y = 0) → mW none (F + 4) mX4_works 26 [(2, .int y), (1, .int 1), (0, .ref 32)] [] h Po := fun y hy => by
    refine w_aload_n (q := 27) aX4_works_26 rfl rfl ?_
    refine w_callV aX4_works_27 t_4_160 (this_at rfl (hm 32 (by decide) (by decide))) (rfl) (d_fails he6 hl hI.2.1 (Nat.le_of_eq hI.2.2.1) ⟨w, hm, hr⟩) (fun r27 h27 hp => ?_)
    obtain ⟨rfl, hR2, hf2⟩ := hp
    obtain ⟨w2, hm2, hr2⟩ := hR2
    refine w_aload_n (q := 31) aX4_works_30 rfl rfl ?_
    refine w_get (q := 34) aX4_works_31 f_4_126 (hm2 32 (by decide) (by decide)) rfl rfl ?_
    refine w_if_ne (t := 45) (q := 37) aX4_works_34 (by decide) rfl (fun c34 => ?_) (fun c34 => ?_)
    · rw [if_neg c34] at hZ
      refine w_iconst (v := 0) (q := 46) aX4_works_45 rfl rfl ?_
      refine w_istore_n (q := 47) (ls' := [(1, _), (2, _), (0, _)]) aX4_works_46 (by decide) rfl rfl ?_
      refine w_goto (t := 2) aX4_works_47 (by decide) ?_
      exact (x_works (hZ u h27 ⟨w2, hm2, hr2⟩ (hf.tr hf2))).ls (Rl.cons (Rl.cons Rl.nil rfl) rfl)
    · have c : (r_fails Q S e).1 = 0 := c34
      rw [if_pos c] at hZ
      have hQ : Q ≠ [] := fun z => e0 (by rw [z] at c; exact c)
      refine w_iload_n (q := 38) aX4_works_37 rfl rfl ?_
      refine w_if_eq (t := 45) (q := 41) aX4_works_38 (by decide) rfl (fun c38 => ?_) (fun c38 => ?_)
      · exact absurd c38 (hy hQ)
      · skip
        refine w_iconst (v := 1) (q := 42) aX4_works_41 rfl rfl ?_
        refine w_goto (t := 46) aX4_works_42 (by decide) ?_
        refine w_istore_n (q := 47) (ls' := [(1, _), (2, _), (0, _)]) aX4_works_46 (by decide) rfl rfl ?_
        refine w_goto (t := 2) aX4_works_47 (by decide) ?_
        refine (hZ u h27 ?_ (hf.tr hf2)).ls (Rl.cons (Rl.cons Rl.nil rfl) rfl)
        rw [c] at hm2
        exact ⟨w2, hm2, hr2⟩
  refine w_iload_n (q := 3) aX4_works_2 rfl rfl ?_
  refine w_if_eq (t := 98) (q := 6) aX4_works_3 (by decide) rfl (fun c3 => ?_) (fun c3 => ?_)
  · exact absurd c3 (by decide)
  · refine w_aload_n (q := 7) aX4_works_6 rfl rfl ?_
    refine w_get (q := 10) aX4_works_7 f_4_126 (hm 32 (by decide) (by decide)) rfl rfl ?_
    refine w_if_eq (t := 50) (q := 13) aX4_works_10 (by decide) rfl (fun c10 => ?_) (fun c10 => ?_)
    · exact absurd c10 e0
    · refine w_aload_n (q := 14) aX4_works_13 rfl rfl ?_
      refine w_get (q := 17) aX4_works_14 f_4_120 (hm 32 (by decide) (by decide)) rfl rfl ?_
      refine w_if_le (t := 24) (q := 20) aX4_works_17 (by decide) rfl (fun c17 => ?_) (fun c17 => ?_)
      · have hz : Q = [] := by
          have : Q.reverse.length ≤ 0 := (nI_leI (b := 0) (by rw [List.length_reverse]; omega) (by omega)).mp c17
          rw [List.length_reverse] at this
          exact List.length_eq_zero_iff.mp (by omega)
        refine w_iconst (v := 0) (q := 25) aX4_works_24 rfl rfl ?_
        refine w_istore_n (q := 26) (ls' := [(2, _), (1, _), (0, _)]) aX4_works_25 (by decide) rfl rfl ?_
        exact t26 0 (fun z => absurd hz z)
      · skip
        refine w_iconst (v := 1) (q := 21) aX4_works_20 rfl rfl ?_
        refine w_goto (t := 25) aX4_works_21 (by decide) ?_
        refine w_istore_n (q := 26) (ls' := [(2, _), (1, _), (0, _)]) aX4_works_25 (by decide) rfl rfl ?_
        exact t26 1 (fun _ => by decide)
theorem k_does {F N : Nat} {h0 : mm_H} {Po : Option Value → mm_H → Prop} {S : St} {Q : List Fr} {k : Nat} {v : Int64} (hI : Iv N S Q) (hk : k < sM S) (hW : WkP F h0 Po (r_does S k v Q.reverse).1 (r_does S k v Q.reverse).2.1 (r_does S k v Q.reverse).2.2 ∨ 200 ≤ sS S ∧ Zk F h0 Po S Q 6) : WkP F h0 Po S Q.reverse (0, 0, nI k, v) := by
  intro h hR hf
  have hl : Q.reverse.length < 600 := by
    have := hI.2.2.2.1
    have := hI.1.2.2.2.2.2.2
    rw [List.length_reverse]
    omega
  have hW2 : WkP F h0 Po (r_does S k v Q.reverse).1 (r_does S k v Q.reverse).2.1 (r_does S k v Q.reverse).2.2 := by
    rcases hW with h | ⟨h1, h2⟩
    · exact h
    · unfold r_does
      rw [if_pos h1]
      exact k_end er_6 hI h2 v
  have hb : sB S k + 1 < 2 ^ 31 := by
    have := hI.2.2.2.2.2.1 k
    have := hI.2.2.2.2.2.2
    have := hI.1.2.2.2.2.2.2
    omega
  have hkM := hI.1.1
  obtain ⟨w, hm, hr⟩ := hR
  refine w_iload_n (q := 3) aX4_works_2 rfl rfl ?_
  refine w_if_eq (t := 98) (q := 6) aX4_works_3 (by decide) rfl (fun c3 => ?_) (fun c3 => ?_)
  · exact absurd c3 (by decide)
  · refine w_aload_n (q := 7) aX4_works_6 rfl rfl ?_
    refine w_get (q := 10) aX4_works_7 f_4_126 (hm 32 (by decide) (by decide)) rfl rfl ?_
    refine w_if_eq (t := 50) (q := 13) aX4_works_10 (by decide) rfl (fun c10 => ?_) (fun c10 => ?_)
    · refine w_aload_n (q := 51) aX4_works_50 rfl rfl ?_
      refine w_get (q := 54) aX4_works_51 f_4_150 (hm 32 (by decide) (by decide)) rfl rfl ?_
      refine w_if_eq (t := 64) (q := 57) aX4_works_54 (by decide) rfl (fun c54 => ?_) (fun c54 => ?_)
      · refine w_aload_n (q := 65) aX4_works_64 rfl rfl ?_
        refine w_get (q := 68) aX4_works_65 f_4_133 (hm 32 (by decide) (by decide)) rfl rfl ?_
        refine w_iconst (v := -1) (q := 69) aX4_works_68 rfl rfl ?_
        refine w_ic_eq (t := 79) (q := 72) aX4_works_69 (by decide) rfl (fun c69 => ?_) (fun c69 => ?_)
        · have hx : nI k = -1 := c69
          have := nI_pos (n := k) (by omega)
          rw [hx] at this
          exact absurd (by decide) this
        · refine w_aload_n (q := 73) aX4_works_72 rfl rfl ?_
          refine w_callV aX4_works_73 t_4_166 (this_at rfl (hm 32 (by decide) (by decide))) (rfl) (d_does hk hI.1 hb hl ⟨w, hm, hr⟩) (fun r73 h73 hp => ?_)
          obtain ⟨rfl, hR2, hf2⟩ := hp
          refine w_goto (t := 2) aX4_works_76 (by decide) ?_
          exact hW2 _ hR2 (hf.tr hf2)
      · exact absurd rfl c54
    · exact absurd rfl c10
/-- the reference goes on from the pile's top -/
theorem k_go {F : Nat} {h0 : mm_H} {Po : Option Value → mm_H → Prop} {S : St} {P : List Fr} {u : Int64} (hl : 0 < P.length) (hl2 : P.length ≤ 600) (hg : ∀ h, RM S P (0, 0, -1, u) h → mW none (F + 3) mX4_goesOn 0 [(0, .ref 32)] [] h (fun r h' => r = none ∧ (fr AM h0 h' → mW none (F + 4) mX4_works 2 [(1, .int 1), (0, .ref 32)] [] h' Po) ∧ fr AM h h')) : WkP F h0 Po S P (0, 0, -1, u) := by
  intro h hR hf
  have hR0 := hR
  obtain ⟨w, hm, hr⟩ := hR
  refine w_iload_n (q := 3) aX4_works_2 rfl rfl ?_
  refine w_if_eq (t := 98) (q := 6) aX4_works_3 (by decide) rfl (fun c3 => ?_) (fun c3 => ?_)
  · exact absurd c3 (by decide)
  · refine w_aload_n (q := 7) aX4_works_6 rfl rfl ?_
    refine w_get (q := 10) aX4_works_7 f_4_126 (hm 32 (by decide) (by decide)) rfl rfl ?_
    refine w_if_eq (t := 50) (q := 13) aX4_works_10 (by decide) rfl (fun c10 => ?_) (fun c10 => ?_)
    · refine w_aload_n (q := 51) aX4_works_50 rfl rfl ?_
      refine w_get (q := 54) aX4_works_51 f_4_150 (hm 32 (by decide) (by decide)) rfl rfl ?_
      refine w_if_eq (t := 64) (q := 57) aX4_works_54 (by decide) rfl (fun c54 => ?_) (fun c54 => ?_)
      · refine w_aload_n (q := 65) aX4_works_64 rfl rfl ?_
        refine w_get (q := 68) aX4_works_65 f_4_133 (hm 32 (by decide) (by decide)) rfl rfl ?_
        refine w_iconst (v := -1) (q := 69) aX4_works_68 rfl rfl ?_
        refine w_ic_eq (t := 79) (q := 72) aX4_works_69 (by decide) rfl (fun c69 => ?_) (fun c69 => ?_)
        · refine w_aload_n (q := 80) aX4_works_79 rfl rfl ?_
          refine w_get (q := 83) aX4_works_80 f_4_120 (hm 32 (by decide) (by decide)) rfl rfl ?_
          refine w_if_le (t := 93) (q := 86) aX4_works_83 (by decide) rfl (fun c83 => ?_) (fun c83 => ?_)
          · exact absurd ((nI_leI (b := 0) (by omega) (by omega)).mp c83) (by omega)
          · refine w_aload_n (q := 87) aX4_works_86 rfl rfl ?_
            refine w_callV aX4_works_87 t_4_169 (this_at rfl (hm 32 (by decide) (by decide))) (rfl) (hg h hR0) (fun r87 h87 hp => ?_)
            obtain ⟨rfl, hW, hf2⟩ := hp
            refine w_goto (t := 2) aX4_works_90 (by decide) ?_
            exact hW (hf.tr hf2)
        · exact absurd rfl c69
      · exact absurd rfl c54
    · exact absurd rfl c10
theorem k_rest {F : Nat} {h0 : mm_H} {Po : Option Value → mm_H → Prop} {S : St} {u : Int64} (k : ∀ h, RM S [] (0, 0, -1, u) h → fr AM h0 h → Po none h) : WkP F h0 Po S [] (0, 0, -1, u) := by
  intro h hR hf
  have hR0 := hR
  obtain ⟨w, hm, hr⟩ := hR
  refine w_iload_n (q := 3) aX4_works_2 rfl rfl ?_
  refine w_if_eq (t := 98) (q := 6) aX4_works_3 (by decide) rfl (fun c3 => ?_) (fun c3 => ?_)
  · exact absurd c3 (by decide)
  · refine w_aload_n (q := 7) aX4_works_6 rfl rfl ?_
    refine w_get (q := 10) aX4_works_7 f_4_126 (hm 32 (by decide) (by decide)) rfl rfl ?_
    refine w_if_eq (t := 50) (q := 13) aX4_works_10 (by decide) rfl (fun c10 => ?_) (fun c10 => ?_)
    · refine w_aload_n (q := 51) aX4_works_50 rfl rfl ?_
      refine w_get (q := 54) aX4_works_51 f_4_150 (hm 32 (by decide) (by decide)) rfl rfl ?_
      refine w_if_eq (t := 64) (q := 57) aX4_works_54 (by decide) rfl (fun c54 => ?_) (fun c54 => ?_)
      · refine w_aload_n (q := 65) aX4_works_64 rfl rfl ?_
        refine w_get (q := 68) aX4_works_65 f_4_133 (hm 32 (by decide) (by decide)) rfl rfl ?_
        refine w_iconst (v := -1) (q := 69) aX4_works_68 rfl rfl ?_
        refine w_ic_eq (t := 79) (q := 72) aX4_works_69 (by decide) rfl (fun c69 => ?_) (fun c69 => ?_)
        · refine w_aload_n (q := 80) aX4_works_79 rfl rfl ?_
          refine w_get (q := 83) aX4_works_80 f_4_120 (hm 32 (by decide) (by decide)) rfl rfl ?_
          refine w_if_le (t := 93) (q := 86) aX4_works_83 (by decide) rfl (fun c83 => ?_) (fun c83 => ?_)
          · refine w_iconst (v := 0) (q := 94) aX4_works_93 rfl rfl ?_
            refine w_istore_n (q := 95) (ls' := [(1, _), (0, _)]) aX4_works_94 (by decide) rfl rfl ?_
            refine w_goto (t := 2) aX4_works_95 (by decide) ?_
            exact x_works (k h hR0 hf)
          · exact absurd (by decide) c83
        · exact absurd rfl c69
      · exact absurd rfl c54
    · exact absurd rfl c10
