/-- how the reference stands at an end -/
def Xe (e : Int32) (u : Int64) : Xs := if e = 7 then (0, 1, -1, u) else (e, 0, -1, u)
def Xb (o : Option Nat) (v u : Int64) : Xs := match o with
  | none => (3, 0, -1, u)
  | some k => (0, 0, nI k, v)
theorem d_begins {F : Nat} {h : mm_H} {S : St} {P : List Fr} {o : Option Nat} {v u : Int64} (ho : ∀ k, o = some k → k < 2 ^ 31) (hR : RM S P (0, 0, -1, u) h) : mW none F mX4_begins 0 [(0, .ref 32), (1, .int (oI o)), (2, .long v)] [] h (fun r h' => r = none ∧ RM S P (Xb o v u) h' ∧ fr AM h h') := by
  obtain ⟨w, hm, r1, r2, r3, r4⟩ := hR
  refine w_iload_n (q := 1) aX4_begins_0 rfl rfl ?_
  refine w_iconst (v := -1) (q := 2) aX4_begins_1 rfl rfl ?_
  refine w_ic_ne (t := 11) (q := 5) aX4_begins_2 (by decide) rfl (fun c2 => ?_) (fun c2 => ?_)
  · cases o with
    | none => exact absurd rfl c2
    | some k =>
      refine w_aload_n (q := 12) aX4_begins_11 rfl rfl ?_
      refine w_iload_n (q := 13) aX4_begins_12 rfl rfl ?_
      refine w_put (q := 16) (fs' := [_, _, _, _, _, _, _, _, _, _, _, _, _, _, _, _, _, _, _, _, _, _, _, _, _, _, _, _, _, _, _]) aX4_begins_13 f_4_133 (hm 32 (by decide) (by decide)) (Nat.le_of_ble_eq_true rfl) rfl rfl (Or.inl rfl) rfl rfl ?_
      refine w_aload_n (q := 17) aX4_begins_16 rfl rfl ?_
      refine w_lload_n (q := 18) aX4_begins_17 rfl rfl ?_
      refine w_put (q := 21) (fs' := [_, _, _, _, _, _, _, _, _, _, _, _, _, _, _, _, _, _, _, _, _, _, _, _, _, _, _, _, _, _, _]) aX4_begins_18 f_4_136 (up_s _ _ _) (Nat.le_of_ble_eq_true rfl) rfl rfl (Or.inl rfl) rfl rfl ?_
      refine w_vret aX4_begins_21 rfl ?_
      refine ⟨rfl, ⟨w, ?_, r1, r2, r3, r4⟩, (fr.rf.up (AM_l (by omega))).up (AM_l (by omega))⟩
      intro q h1 h2
      rcases q23 q h1 h2 with rfl | rfl | rfl | rfl | rfl | rfl | rfl | rfl | rfl | rfl | rfl | rfl | rfl | rfl | rfl | rfl | rfl | rfl | rfl | rfl | rfl | rfl | rfl <;> first | exact hm _ h1 h2 |  rfl
  · have := (oI_m1 ho).mp c2
    subst this
    refine w_aload_n (q := 6) aX4_begins_5 rfl rfl ?_
    refine w_iconst (v := 3) (q := 7) aX4_begins_6 rfl rfl ?_
    refine w_put (q := 10) (fs' := [_, _, _, _, _, _, _, _, _, _, _, _, _, _, _, _, _, _, _, _, _, _, _, _, _, _, _, _, _, _, _]) aX4_begins_7 f_4_126 (hm 32 (by decide) (by decide)) (Nat.le_of_ble_eq_true rfl) rfl rfl (Or.inl rfl) rfl rfl ?_
    refine w_vret aX4_begins_10 rfl ?_
    refine ⟨rfl, ⟨w, ?_, r1, r2, r3, r4⟩, fr.rf.up (AM_l (by omega))⟩
    intro q h1 h2
    rcases q23 q h1 h2 with rfl | rfl | rfl | rfl | rfl | rfl | rfl | rfl | rfl | rfl | rfl | rfl | rfl | rfl | rfl | rfl | rfl | rfl | rfl | rfl | rfl | rfl | rfl <;> first | exact hm _ h1 h2 |  rfl
theorem d_ready {F : Nat} {h : mm_H} {S : St} {P : List Fr} {X : Xs} (hR : RM S P X h) : mW none F mX4_ready 0 [(0, .ref 32)] [] h (fun r h' => r = none ∧ RM (uS (uD S 0) 0) [] (0, 0, -1, X.2.2.2) h' ∧ fr AM h h') := by
  obtain ⟨w, hm, r1, r2, r3, r4⟩ := hR
  refine w_aload_n (q := 1) aX4_ready_0 rfl rfl ?_
  refine w_iconst (v := 0) (q := 2) aX4_ready_1 rfl rfl ?_
  refine w_put (q := 5) (fs' := [_, _, _, _, _, _, _, _, _, _, _, _, _, _, _, _, _, _, _, _, _, _, _, _, _, _, _, _, _, _, _]) aX4_ready_2 f_4_120 (hm 32 (by decide) (by decide)) (Nat.le_of_ble_eq_true rfl) rfl rfl (Or.inl rfl) rfl rfl ?_
  refine w_aload_n (q := 6) aX4_ready_5 rfl rfl ?_
  refine w_iconst (v := 0) (q := 7) aX4_ready_6 rfl rfl ?_
  refine w_put (q := 10) (fs' := [_, _, _, _, _, _, _, _, _, _, _, _, _, _, _, _, _, _, _, _, _, _, _, _, _, _, _, _, _, _, _]) aX4_ready_7 f_4_123 (up_s _ _ _) (Nat.le_of_ble_eq_true rfl) rfl rfl (Or.inl rfl) rfl rfl ?_
  refine w_aload_n (q := 11) aX4_ready_10 rfl rfl ?_
  refine w_iconst (v := 0) (q := 12) aX4_ready_11 rfl rfl ?_
  refine w_put (q := 15) (fs' := [_, _, _, _, _, _, _, _, _, _, _, _, _, _, _, _, _, _, _, _, _, _, _, _, _, _, _, _, _, _, _]) aX4_ready_12 f_4_140 (up_s _ _ _) (Nat.le_of_ble_eq_true rfl) rfl rfl (Or.inl rfl) rfl rfl ?_
  refine w_aload_n (q := 16) aX4_ready_15 rfl rfl ?_
  refine w_iconst (v := 0) (q := 17) aX4_ready_16 rfl rfl ?_
  refine w_put (q := 20) (fs' := [_, _, _, _, _, _, _, _, _, _, _, _, _, _, _, _, _, _, _, _, _, _, _, _, _, _, _, _, _, _, _]) aX4_ready_17 f_4_126 (up_s _ _ _) (Nat.le_of_ble_eq_true rfl) rfl rfl (Or.inl rfl) rfl rfl ?_
  refine w_aload_n (q := 21) aX4_ready_20 rfl rfl ?_
  refine w_iconst (v := 0) (q := 22) aX4_ready_21 rfl rfl ?_
  refine w_put (q := 25) (fs' := [_, _, _, _, _, _, _, _, _, _, _, _, _, _, _, _, _, _, _, _, _, _, _, _, _, _, _, _, _, _, _]) aX4_ready_22 f_4_150 (up_s _ _ _) (Nat.le_of_ble_eq_true rfl) rfl rfl (Or.inl rfl) rfl rfl ?_
  refine w_aload_n (q := 26) aX4_ready_25 rfl rfl ?_
  refine w_iconst (v := -1) (q := 27) aX4_ready_26 rfl rfl ?_
  refine w_put (q := 30) (fs' := [_, _, _, _, _, _, _, _, _, _, _, _, _, _, _, _, _, _, _, _, _, _, _, _, _, _, _, _, _, _, _]) aX4_ready_27 f_4_133 (up_s _ _ _) (Nat.le_of_ble_eq_true rfl) rfl rfl (Or.inl rfl) rfl rfl ?_
  refine w_vret aX4_ready_30 rfl ?_
  refine ⟨rfl, ⟨w, ?_, r1, r2, r3, fun p f hp => by cases hp⟩, (((((fr.rf.up (AM_l (by omega))).up (AM_l (by omega))).up (AM_l (by omega))).up (AM_l (by omega))).up (AM_l (by omega))).up (AM_l (by omega))⟩
  intro q h1 h2
  rcases q23 q h1 h2 with rfl | rfl | rfl | rfl | rfl | rfl | rfl | rfl | rfl | rfl | rfl | rfl | rfl | rfl | rfl | rfl | rfl | rfl | rfl | rfl | rfl | rfl | rfl <;> first | exact hm _ h1 h2 |  rfl
/-- the rows once a frame lies on the pile of n -/
def hw (w : Raw) (n : Nat) (s i : Int32) (v : Int64) : Raw := (w.1, w.2.1, w.2.2.1, w.2.2.2.1, fu w.2.2.2.2.1 n s, fu w.2.2.2.2.2.1 n i, fu w.2.2.2.2.2.2.1 n v, fu w.2.2.2.2.2.2.2.1 n 0, fu w.2.2.2.2.2.2.2.2.1 n 0, w.2.2.2.2.2.2.2.2.2)
theorem d_heap {F : Nat} {h : mm_H} {S : St} {n : Nat} {X : Xs} {w : Raw} {s i : Int32} {v : Int64} (hn : n < 600) (hm : hM S n X w h) : mW none F mX4_heap 0 [(0, .ref 32), (1, .int s), (2, .int i), (3, .long v)] [] h (fun r h' => r = none ∧ hM S (n + 1) X (hw w n s i v) h' ∧ fr AM h h') := by
  have m32 := hm 32 (by decide) (by decide)
  refine w_aload_n (q := 1) aX4_heap_0 rfl rfl ?_
  refine w_get (q := 4) aX4_heap_1 f_4_56 (m32) rfl rfl ?_
  refine w_aload_n (q := 5) aX4_heap_4 rfl rfl ?_
  refine w_get (q := 8) aX4_heap_5 f_4_120 (m32) rfl rfl ?_
  refine w_iload_n (q := 9) aX4_heap_8 rfl rfl ?_
  refine w_iast (q := 10) (n := n) (vs' := _) aX4_heap_9 (hm 48 (by decide) (by decide)) (rfl) (by rw [rg_len]; omega) (by rw [rg_len]; omega) (rg_set _ _ _ _) rfl ?_
  refine w_aload_n (q := 11) aX4_heap_10 rfl rfl ?_
  refine w_get (q := 14) aX4_heap_11 f_4_59 ((up_n (by decide)).trans m32) rfl rfl ?_
  refine w_aload_n (q := 15) aX4_heap_14 rfl rfl ?_
  refine w_get (q := 18) aX4_heap_15 f_4_120 ((up_n (by decide)).trans m32) rfl rfl ?_
  refine w_iload_n (q := 19) aX4_heap_18 rfl rfl ?_
  refine w_iast (q := 20) (n := n) (vs' := _) aX4_heap_19 ((up_n (by decide)).trans (hm 49 (by decide) (by decide))) (rfl) (by rw [rg_len]; omega) (by rw [rg_len]; omega) (rg_set _ _ _ _) rfl ?_
  refine w_aload_n (q := 21) aX4_heap_20 rfl rfl ?_
  refine w_get (q := 24) aX4_heap_21 f_4_62 (m32) rfl rfl ?_
  refine w_aload_n (q := 25) aX4_heap_24 rfl rfl ?_
  refine w_get (q := 28) aX4_heap_25 f_4_120 (m32) rfl rfl ?_
  refine w_lload_n (q := 29) aX4_heap_28 rfl rfl ?_
  refine w_last (q := 30) (n := n) (vs' := _) aX4_heap_29 (hm 50 (by decide) (by decide)) (rfl) (by rw [rg_len]; omega) (by rw [rg_len]; omega) (rg_set _ _ _ _) rfl ?_
  refine w_aload_n (q := 31) aX4_heap_30 rfl rfl ?_
  refine w_get (q := 34) aX4_heap_31 f_4_65 (m32) rfl rfl ?_
  refine w_aload_n (q := 35) aX4_heap_34 rfl rfl ?_
  refine w_get (q := 38) aX4_heap_35 f_4_120 (m32) rfl rfl ?_
  refine w_iconst (v := 0) (q := 39) aX4_heap_38 rfl rfl ?_
  refine w_iast (q := 40) (n := n) (vs' := _) aX4_heap_39 (hm 51 (by decide) (by decide)) (rfl) (by rw [rg_len]; omega) (by rw [rg_len]; omega) (rg_set _ _ _ _) rfl ?_
  refine w_aload_n (q := 41) aX4_heap_40 rfl rfl ?_
  refine w_get (q := 44) aX4_heap_41 f_4_68 (m32) rfl rfl ?_
  refine w_aload_n (q := 45) aX4_heap_44 rfl rfl ?_
  refine w_get (q := 48) aX4_heap_45 f_4_120 (m32) rfl rfl ?_
  refine w_iconst (v := 0) (q := 49) aX4_heap_48 rfl rfl ?_
  refine w_iast (q := 50) (n := n) (vs' := _) aX4_heap_49 (hm 52 (by decide) (by decide)) (rfl) (by rw [rg_len]; omega) (by rw [rg_len]; omega) (rg_set _ _ _ _) rfl ?_
  refine w_aload_n (q := 51) aX4_heap_50 rfl rfl ?_
  refine w_dup (q := 52) aX4_heap_51 rfl rfl ?_
  refine w_get (q := 55) aX4_heap_52 f_4_120 (m32) rfl rfl ?_
  refine w_iconst (v := 1) (q := 56) aX4_heap_55 rfl rfl ?_
  refine w_iadd (q := 57) aX4_heap_56 rfl ?_
  refine w_put (q := 60) (fs' := [_, _, _, _, _, _, _, _, _, _, _, _, _, _, _, _, _, _, _, _, _, _, _, _, _, _, _, _, _, _, _]) aX4_heap_57 f_4_120 (m32) (Nat.le_of_ble_eq_true rfl) rfl rfl (Or.inl rfl) rfl rfl ?_
  refine w_vret aX4_heap_60 rfl ?_
  have f48 : fu (fun j => Value.int (w.2.2.2.2.1 j)) n (.int s) = fun j => Value.int (fu w.2.2.2.2.1 n s j) := fu_map Value.int _ _ s
  have f49 : fu (fun j => Value.int (w.2.2.2.2.2.1 j)) n (.int i) = fun j => Value.int (fu w.2.2.2.2.2.1 n i j) := fu_map Value.int _ _ i
  have f50 : fu (fun j => Value.long (w.2.2.2.2.2.2.1 j)) n (.long v) = fun j => Value.long (fu w.2.2.2.2.2.2.1 n v j) := fu_map Value.long _ _ v
  have f51 : fu (fun j => Value.int (w.2.2.2.2.2.2.2.1 j)) n (.int 0) = fun j => Value.int (fu w.2.2.2.2.2.2.2.1 n 0 j) := fu_map Value.int _ _ 0
  have f52 : fu (fun j => Value.int (w.2.2.2.2.2.2.2.2.1 j)) n (.int 0) = fun j => Value.int (fu w.2.2.2.2.2.2.2.2.1 n 0 j) := fu_map Value.int _ _ 0
  have e32 : moL S (n + 1) X = [.ref 33, .ref 34, .ref 35, .ref 36, .int (nI (sM S)), .ref 37, .ref 38, .ref 39, .ref 40, .ref 41, .ref 42, .ref 43, .ref 44, .ref 45, .ref 46, .ref 47, .int (nI (sQ S).length), .int (nI n + 1), .ref 48, .ref 49, .ref 50, .ref 51, .ref 52, .ref 53, .int (nI (sD S)), .int (nI (sS S)), .int X.1, .int X.2.1, .int X.2.2.1, .long X.2.2.2, .ref 54] := by rw [nI_1]; rfl
  refine ⟨rfl, ?_, (((((fr.rf.up (AM_l (by omega))).up (AM_l (by omega))).up (AM_l (by omega))).up (AM_l (by omega))).up (AM_l (by omega))).up (AM_l (by omega))⟩
  intro q h1 h2
  rcases q23 q h1 h2 with rfl | rfl | rfl | rfl | rfl | rfl | rfl | rfl | rfl | rfl | rfl | rfl | rfl | rfl | rfl | rfl | rfl | rfl | rfl | rfl | rfl | rfl | rfl <;> first | exact hm _ h1 h2 | exact congrArg (fun z => some ((4 : Nat), z)) e32.symm | exact congrArg (fun z => some ((5 : Nat), rg 600 z)) f48 | exact congrArg (fun z => some ((5 : Nat), rg 600 z)) f49 | exact congrArg (fun z => some ((6 : Nat), rg 600 z)) f50 | exact congrArg (fun z => some ((5 : Nat), rg 600 z)) f51 | exact congrArg (fun z => some ((5 : Nat), rg 600 z)) f52 |  rfl
theorem rPi.push {P : List Fr} {w : Raw} {s i : Int32} {v : Int64} (hs : ¬ s = 0) (h : rPi P w) : rPi (P ++ [(s, i, v, [], 0)]) (hw w P.length s i v) := by
  intro p f hp
  by_cases e : p < P.length
  · rw [List.getElem?_append_left e] at hp
    obtain ⟨g1, g2, g3, g4⟩ := h p f hp
    refine ⟨(fu_n (by omega)).trans g1, (fu_n (by omega)).trans g2, (fu_n (by omega)).trans g3, fun z => ?_⟩
    obtain ⟨k1, k2, k3, k4⟩ := g4 z
    exact ⟨(fu_n (by omega)).trans k1, (fu_n (by omega)).trans k2, k3, k4⟩
  · have e2 : p = P.length := by
      have := (List.getElem?_eq_some_iff.mp hp).1
      simp at this
      omega
    subst e2
    simp at hp
    subst hp
    exact ⟨fu_s, fu_s, fu_s, fun z => absurd z hs⟩
/-- the pile's last frame is taken off -/
theorem rPi.pop {P : List Fr} {w : Raw} {f : Fr} (h : rPi (P ++ [f]) w) : rPi P w := fun p g hp => h p g (by rw [List.getElem?_append_left (List.getElem?_eq_some_iff.mp hp).1]; exact hp)
theorem rPi.top {P : List Fr} {w : Raw} {f : Fr} (h : rPi (P ++ [f]) w) : w.2.2.2.2.1 P.length = f.1 ∧ w.2.2.2.2.2.1 P.length = f.2.1 ∧ w.2.2.2.2.2.2.1 P.length = f.2.2.1 ∧ (f.1 = 0 → w.2.2.2.2.2.2.2.1 P.length = nI f.2.2.2.2 ∧ w.2.2.2.2.2.2.2.2.1 P.length = nI f.2.2.2.1.length ∧ f.2.2.2.1.length ≤ 12 ∧ ∀ i x, f.2.2.2.1[i]? = some x → w.2.2.2.2.2.2.2.2.2 (12 * P.length + i) = x) := h P.length f (by simp)
