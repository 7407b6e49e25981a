theorem rep_rg (n : Nat) (v : Value) : List.replicate n v = rg n (fun _ => v) := by
  unfold rg
  rw [List.map_const', List.length_range]
theorem x_newI {sc : Option (List Int32)} {F : Nat} {M : mm_T} {pc N : Nat} {ls : mm_L} {r : List Value} {h : mm_H} (hN : N ≤ 10000) : mm_x sc F M (.newarray .int) pc ls (.int (nI N) :: r) h = some (.inl (pc + 2, ls, .ref h.1 :: r, mm_new h (5, rg N (fun _ => .int 0)))) := by
  have h1 := nI_pos (n := N) (by omega)
  have h2 := nI_clamp (n := N) (by omega)
  simp only [mm_x]
  rw [h2, if_neg (fun z => z.elim h1 (fun y => by omega)), rep_rg]
theorem x_newL {sc : Option (List Int32)} {F : Nat} {M : mm_T} {pc N : Nat} {ls : mm_L} {r : List Value} {h : mm_H} (hN : N ≤ 10000) : mm_x sc F M (.newarray .long) pc ls (.int (nI N) :: r) h = some (.inl (pc + 2, ls, .ref h.1 :: r, mm_new h (6, rg N (fun _ => .long 0)))) := by
  have h1 := nI_pos (n := N) (by omega)
  have h2 := nI_clamp (n := N) (by omega)
  simp only [mm_x]
  rw [h2, if_neg (fun z => z.elim h1 (fun y => by omega)), rep_rg]
theorem x_newA {sc : Option (List Int32)} {F : Nat} {M : mm_T} {pc N i k : Nat} {ls : mm_L} {r : List Value} {h : mm_H} (hN : N ≤ 10000) (hc : mm_cls M.1 i = some k) (hk : k ≤ 1) : mm_x sc F M (.anewarray i) pc ls (.int (nI N) :: r) h = some (.inl (pc + 3, ls, .ref h.1 :: r, mm_new h (7 + k, rg N (fun _ => .null)))) := by
  have h1 := nI_pos (n := N) (by omega)
  have h2 := nI_clamp (n := N) (by omega)
  simp only [mm_x, hc]
  rw [h2, if_neg (fun z => z.elim h1 (fun y => by omega)), rep_rg]
theorem x_mna {sc : Option (List Int32)} {F : Nat} {M : mm_T} {pc N K i : Nat} {ls : mm_L} {r : List Value} {h : mm_H} (hN : N ≤ 10000) (hK : K ≤ 10000) (hc : mm_cls M.1 i = some 9) : mm_x sc F M (.multianewarray i 2) pc ls (.int (nI K) :: .int (nI N) :: r) h = some (.inl (pc + 4, ls, .ref h.1 :: r, mm_grid h N K)) := by
  have h1 := nI_pos (n := N) (by omega)
  have h2 := nI_clamp (n := N) (by omega)
  have h3 := nI_pos (n := K) (by omega)
  have h4 := nI_clamp (n := K) (by omega)
  simp only [mm_x, hc]
  rw [h2, h4, if_neg (fun z => by
    rcases z with z | z | z | z | z
    · exact h1 z
    · exact h3 z
    · omega
    · omega
    · exact z trivial)]
theorem rows_at (b k : Nat) (f : Nat → Option mm_C) : ∀ (n x : Nat), mm_rows b k n f x = if b ≤ x ∧ x < b + n then some (5, rg k (fun _ => .int 0)) else f x := by
  intro n
  induction n with
  | zero => intro x; rw [if_neg (by omega)]; rfl
  | succ n ih =>
    intro x
    unfold mm_rows
    simp only [rep_rg]
    by_cases e : x = b + n
    · rw [if_pos e, if_pos (by omega)]
    · rw [if_neg e, ih]
      by_cases e2 : b ≤ x ∧ x < b + n
      · rw [if_pos e2, if_pos (by omega)]
      · rw [if_neg e2, if_neg (by omega)]
/-- an object o of the class ci under making: its fields fs, the cells lo .. a - 1 as z has them, those below it as they were -/
def Al (o ci lo a : Nat) (fs : List Value) (z : Nat → mm_C) (h0 : mm_H) (sl : Nat) (h : mm_H) : Prop := h.1 = a ∧ h.2.2 o = some (ci, fs) ∧ (∀ q, lo ≤ q → q < a → h.2.2 q = some (z q)) ∧ (∀ q, q < o → h.2.2 q = h0.2.2 q) ∧ h.2.1 ≤ sl
theorem Al.new {o ci lo a : Nat} {fs : List Value} {z : Nat → mm_C} {h0 : mm_H} {sl : Nat} {h : mm_H} {c : mm_C} (H : Al o ci lo a fs z h0 sl h) (ho : o < lo) (hlo : lo ≤ a) (hz : z a = c) : Al o ci lo (a + 1) fs z h0 (sl + c.2.length) (mm_new h c) := by
  obtain ⟨e1, e2, e3, e4, e5⟩ := H
  refine ⟨by show h.1 + 1 = a + 1; omega, (new_n (by omega)).trans e2, fun q h1 h2 => ?_, fun q hq => (new_n (by omega)).trans (e4 q hq), by show h.2.1 + c.2.length ≤ sl + c.2.length; omega⟩
  by_cases e : q = a
  · subst e
    rw [hz, ← e1]
    exact new_s _ _
  · exact (new_n (by omega)).trans (e3 q h1 (by omega))
theorem Al.fld {o ci lo a : Nat} {fs fs' : List Value} {z : Nat → mm_C} {h0 : mm_H} {sl : Nat} {h : mm_H} (H : Al o ci lo a fs z h0 sl h) (ho : o < lo) : Al o ci lo a fs' z h0 sl (mm_up h o (ci, fs')) := by
  obtain ⟨e1, e2, e3, e4, e5⟩ := H
  exact ⟨e1, up_s _ _ _, fun q h1 h2 => (up_n (by omega)).trans (e3 q h1 h2), fun q hq => (up_n (by omega)).trans (e4 q hq), e5⟩
/-- an array is made and put into a field -/
theorem al_G {F : Nat} {M : mm_T} {pc q q2 : Nat} {ls : mm_L} {r : List Value} {h h0 : mm_H} {o ci lo a N j i : Nat} {fs fs' : List Value} {z : Nat → mm_C} {sl : Nat} {ins : Instr} {c : mm_C} {P : Option Value → mm_H → Prop} (ha : mm_at M pc = some ins) (hx : mm_x none F M ins pc ls (.int (nI N) :: .ref o :: r) h = some (.inl (q, ls, .ref h.1 :: .ref o :: r, mm_new h c))) (hz : z a = c) (hb : mm_at M q = some (.putfield i)) (hf : mm_fld M.1 i = some (ci, j)) (hk : j < fs.length) (hn : narrow (mm_ty ci j) (.ref a) = .ref a) (ht : fits (mm_ty ci j) (.ref a) = true) (hfin : (mm_F ci j).2.2.2 = false ∨ (M.2.1.name = "<init>" ∧ M.1 = ci)) (hs : fs.set j (.ref a) = fs') (hq2 : q + 3 = q2) (ho : o < lo) (hlo : lo ≤ a) (H : Al o ci lo a fs z h0 sl h) (k : ∀ h', Al o ci lo (a + 1) fs' z h0 (sl + c.2.length) h' → mW none F M q2 ls r h' P) : mW none F M pc ls (.int (nI N) :: .ref o :: r) h P := by
  refine mW.step ha hx ?_
  have H2 := H.new ho hlo hz
  rw [H.1]
  exact w_put hb hf H2.2.1 hk hn ht hfin hs hq2 (k _ (H2.fld ho))
