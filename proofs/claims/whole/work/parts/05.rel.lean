/-! HOW THE MINI-MACHINE STANDS TO THE MACHINE: mini address 0 is the script's cell, address a + 1 the a-th cell made since the law began; B = (the script's address, the heap's size at the law's start) -/
def mm_am (B : Nat × Nat) (a : Nat) : Nat := if a = 0 then B.1 else B.2 + (a - 1)
def mm_sh (B : Nat × Nat) (v : Value) : Value := match v with
  | .ref a => .ref (mm_am B a)
  | .int x => .int x
  | .long x => .long x
  | .float x => .float x
  | .double x => .double x
  | .null => .null
  | .retAddr x => .retAddr x
def mm_mp (B : Nat × Nat) (ls : mm_L) : List (Nat × Value) := ls.map (fun q => (q.1, mm_sh B q.2))
theorem mm_sh_cat (B : Nat × Nat) (v : Value) : (mm_sh B v).category = v.category := by cases v <;> rfl
theorem mm_am_inj {B : Nat × Nat} {a b : Nat} (ha : 0 < a) (hb : 0 < b) (h : mm_am B a = mm_am B b) : a = b := by
  unfold mm_am at h
  rw [if_neg (by omega), if_neg (by omega)] at h
  omega
theorem mm_lk_has {B : Nat × Nat} {lsA : Array Slot} {nL i : Nat} {ls : mm_L} {v : Value} (hl : lv_has lsA nL (mm_mp B ls)) (h : mm_lk ls i = some v) : lsA[i]? = some (.val (mm_sh B v)) := by
  unfold mm_lk at h
  obtain ⟨q, hq, hv⟩ := Option.map_eq_some_iff.mp h
  have h1 := List.find?_some hq
  have h2 := List.mem_of_find?_eq_some hq
  have h3 := hl.2.2 (q.1, mm_sh B q.2) (List.mem_map.mpr ⟨q, h2, rfl⟩)
  have h4 : q.1 = i := by simpa using h1
  rw [← hv, ← h4]
  exact h3
theorem mm_mp_st1 (B : Nat × Nat) (ls : mm_L) (i : Nat) (v : Value) : (i, mm_sh B v) :: (mm_mp B ls).filter (fun q => !(q.1 == i) && !(q.1 + 1 == i && q.2.category == 2)) = mm_mp B (mm_st1 ls i v) := by
  unfold mm_mp mm_st1
  rw [List.map_cons, List.filter_map]
  have h : ((fun q : Nat × Value => !(q.1 == i) && !(q.1 + 1 == i && q.2.category == 2)) ∘ fun q : Nat × Value => (q.1, mm_sh B q.2)) = (fun q : Nat × Value => !(q.1 == i) && !(q.1 + 1 == i && q.2.category == 2)) := by
    funext q
    simp [Function.comp, mm_sh_cat]
  rw [h]
theorem mm_mp_st2 (B : Nat × Nat) (ls : mm_L) (i : Nat) (v : Value) : (i, mm_sh B v) :: (mm_mp B ls).filter (fun q => !(q.1 == i) && (!(q.1 == i + 1) && !(q.1 + 1 == i && q.2.category == 2))) = mm_mp B (mm_st2 ls i v) := by
  unfold mm_mp mm_st2
  rw [List.map_cons, List.filter_map]
  have h : ((fun q : Nat × Value => !(q.1 == i) && (!(q.1 == i + 1) && !(q.1 + 1 == i && q.2.category == 2))) ∘ fun q : Nat × Value => (q.1, mm_sh B q.2)) = (fun q : Nat × Value => !(q.1 == i) && (!(q.1 == i + 1) && !(q.1 + 1 == i && q.2.category == 2))) := by
    funext q
    simp [Function.comp, mm_sh_cat]
  rw [h]
/-- a cell of the machine's heap is as the mini-machine has it -/
def mm_cell (D : va_G) (B : Nat × Nat) (a : Nat) (c : mm_C) (H : Heap) : Prop :=
  if c.1 < 5 then c.2.length = mm_N c.1 ∧ t_OB (mm_am B a) (D.1 c.1) (mm_N c.1) (D.2 c.1) H (vp_V (c.2.map (mm_sh B)))
  else H[mm_am B a]? = some (arrV (D.1 c.1) c.2.length (vp_V (c.2.map (mm_sh B))))
def mm_HP (D : va_G) (B : Nat × Nat) (h : mm_H) (H : Heap) : Prop :=
  1 ≤ h.1 ∧ H.size + 1 = B.2 + h.1 ∧ ∀ (a : Nat) (c : mm_C), h.2.2 a = some c → 0 < a ∧ a < h.1 ∧ mm_cell D B a c H
theorem mm_cell.kept {D : va_G} {B : Nat × Nat} {a : Nat} {c : mm_C} {H H1 : Heap} (h : mm_cell D B a c H) (hq : H1[mm_am B a]? = H[mm_am B a]?) : mm_cell D B a c H1 := by
  unfold mm_cell at h ⊢
  by_cases hk : c.1 < 5
  · rw [if_pos hk] at h ⊢
    exact ⟨h.1, h.2.kept hq⟩
  · rw [if_neg hk] at h ⊢
    rw [hq]
    exact h
theorem mm_HP.am {D : va_G} {B : Nat × Nat} {h : mm_H} {H : Heap} (hP : mm_HP D B h H) : mm_am B h.1 = H.size := by
  obtain ⟨h1, h2, -⟩ := hP
  unfold mm_am
  rw [if_neg (by omega)]
  omega
theorem mm_HP.up {D : va_G} {B : Nat × Nat} {h : mm_H} {H H1 : Heap} {a : Nat} {c0 c : mm_C} (hP : mm_HP D B h H) (ha : h.2.2 a = some c0) (hc : mm_cell D B a c H1) (z : H1.size = H.size) (o : ∀ q : Nat, q ≠ mm_am B a → H1[q]? = H[q]?) : mm_HP D B (mm_up h a c) H1 := by
  obtain ⟨h1, h2, h3⟩ := hP
  refine ⟨h1, by rw [z]; exact h2, fun b d hb => ?_⟩
  have hb' : (if b = a then some c else h.2.2 b) = some d := hb
  by_cases e : b = a
  · subst e
    rw [if_pos rfl] at hb'
    cases hb'
    exact ⟨(h3 _ _ ha).1, (h3 _ _ ha).2.1, hc⟩
  · rw [if_neg e] at hb'
    obtain ⟨g1, g2, g3⟩ := h3 _ _ hb'
    exact ⟨g1, g2, g3.kept (o _ (fun q => e (mm_am_inj g1 (h3 _ _ ha).1 q)))⟩
theorem mm_HP.new {D : va_G} {B : Nat × Nat} {h : mm_H} {H H1 : Heap} {c : mm_C} (hP : mm_HP D B h H) (hc : mm_cell D B h.1 c H1) (z : H1.size = H.size + 1) (o : ∀ q : Nat, q < H.size → H1[q]? = H[q]?) : mm_HP D B (mm_new h c) H1 := by
  have ham := hP.am
  obtain ⟨h1, h2, h3⟩ := hP
  refine ⟨by show 1 ≤ h.1 + 1; omega, by show H1.size + 1 = B.2 + (h.1 + 1); omega, fun b d hb => ?_⟩
  have hb' : (if b = h.1 then some c else h.2.2 b) = some d := hb
  show 0 < b ∧ b < h.1 + 1 ∧ _
  by_cases e : b = h.1
  · rw [if_pos e] at hb'
    cases hb'
    rw [e]
    exact ⟨h1, by omega, hc⟩
  · rw [if_neg e] at hb'
    obtain ⟨g1, g2, g3⟩ := h3 _ _ hb'
    refine ⟨g1, by omega, g3.kept (o _ ?_)⟩
    unfold mm_am
    rw [if_neg (by omega)]
    omega
/-! the tables hold what the machine asks -/
def mm_Ws : List Cond := lw_tbl.filter goodWord
def mm_nestL : List (String × Nat × MethodName × String) := [(RX3, 21, yX2_init, RX3), (RX3, 40, yX1_init, RX3)]
def mm_tys (D : va_G) : List (ClassId × FieldType) := [(D.1 5, .int), (D.1 6, .long), (D.1 7, .object RX0), (D.1 8, .object RX1), (D.1 9, .array .int)]
/-- what is known of the tables of int[][] -/
def mm_AOA (D : va_G) (U : State) : Prop := (∃ k : Class, U.vm.classes[D.1 9]? = some k ∧ k.kind = .array (D.1 5) (.array .int)) ∧ ∃ (k : Class) (cm : ClassId), U.vm.classes[D.1 5]? = some k ∧ k.kind = .array cm .int
/-- what the mini-machine takes as given of the machine's tables -/
def mm_WF (D : va_G) (U : State) : Prop := va_K D vwCl (mm_tys D) U ∧ va_AO RX0 U ∧ va_AO RX1 U ∧ mm_AOA D U ∧ ∀ e ∈ mm_nestL, va_Nw (.methodLinkNest e.1 e.2.1 e.2.2.1 e.2.2.2) U
theorem mm_AOA.moved {D : va_G} {u U : State} (hvm : u.vm.Alike U.vm) (h : mm_AOA D u) : mm_AOA D U := by
  obtain ⟨⟨k, h1, h2⟩, k5, cm, h3, h4⟩ := h
  obtain ⟨k', hk', he⟩ := hvm.2.2 _ _ h1
  obtain ⟨k5', hk5', he5⟩ := hvm.2.2 _ _ h3
  exact ⟨⟨k', hk', by rw [he]; exact h2⟩, k5', cm, hk5', by rw [he5]; exact h4⟩
theorem mm_WF.warm {D : va_G} {s U : State} (hW : s.WarmedH U.vm) (h : mm_WF D s) : mm_WF D U := by
  obtain ⟨h1, h2, h3, h4, h5⟩ := h
  exact ⟨va_K.moved hW.alike h1, h2.moved hW.alike, h3.moved hW.alike, h4.moved hW.alike, fun e he => va_Nw.warmM hW (h5 e he)⟩
theorem mm_WF.same {D : va_G} {s U : State} (hW : s.vm = U.vm) (h : mm_WF D s) : mm_WF D U := by
  obtain ⟨h1, h2, h3, h4, h5⟩ := h
  have hA : s.vm.Alike U.vm := by rw [hW]; exact Vm.Alike.refl _
  exact ⟨va_K.moved hA h1, h2.moved hA, h3.moved hA, h4.moved hA, fun e he => va_Nw.same rfl hW (h5 e he)⟩
theorem mm_cl_at (i : Nat) (h : i < 5) : vwCl[i]? = some (mm_cn i, mm_F i, mm_N i) := by
  match i, h with
  | 0, _ => rfl
  | 1, _ => rfl
  | 2, _ => rfl
  | 3, _ => rfl
  | 4, _ => rfl
  | n + 5, h => omega
set_option maxRecDepth 100000 in
theorem mm_fldL_ok : ∀ e ∈ mm_fldL, e.2.2.1 < 5 ∧ e.2.2.2 < mm_N e.2.2.1 ∧ Cond.fieldLink (mm_cn e.1) e.2.1 (mm_F e.2.2.1 e.2.2.2).1 (mm_F e.2.2.1 e.2.2.2).2.1 (mm_F e.2.2.1 e.2.2.2).2.2.1 ∈ mm_Ws ∧ (mm_F e.2.2.1 e.2.2.2).1 = mm_cn e.2.2.1 := by decide +kernel
set_option maxRecDepth 100000 in
theorem mm_lay_ok : ∀ i, i < 5 → ∀ w ∈ u_ws (mm_cn i) (mm_F i) (mm_N i), w ∈ mm_Ws := by decide +kernel
set_option maxRecDepth 100000 in
theorem mm_ty_ok : ∀ i, i < 5 → ∀ k, k < mm_N i → parseFieldDescriptor (mm_F i k).2.2.1 = some (mm_ty i k) := by decide +kernel
set_option maxRecDepth 100000 in
theorem mm_nm_ok : ∀ i, i < 5 → ∀ a, a < mm_N i → ∀ b, b < mm_N i → a ≠ b → (mm_F i a).2.1 ≠ (mm_F i b).2.1 := by decide +kernel
set_option maxRecDepth 100000 in
theorem mm_ldcL_ok : ∀ e ∈ mm_ldcL, Cond.constantLong (mm_cn e.1) e.2.1 e.2.2 ∈ mm_Ws := by decide +kernel
set_option maxRecDepth 100000 in
theorem mm_clsL_ok : ∀ e ∈ mm_clsL, (e.2.2 < 5 → Cond.classLink (mm_cn e.1) e.2.1 (mm_cn e.2.2) ∈ mm_Ws ∧ Cond.instantiable (mm_cn e.2.2) (mm_N e.2.2) ∈ mm_Ws ∧ Cond.initialized (mm_cn e.2.2) ∈ mm_Ws) ∧ (e.2.2 = 9 → Cond.classLink (mm_cn e.1) e.2.1 ("[" ++ (FieldType.array .int).toString) ∈ mm_Ws) := by decide +kernel
set_option maxRecDepth 100000 in
theorem mm_objL_ok : ∀ e ∈ mm_objL, Cond.methodLink (mm_cn e.1) e.2 Lib.objectInit ∈ mm_Ws := by decide +kernel
set_option maxRecDepth 100000 in
theorem mm_obj_ok : Cond.instanceMethod Lib.objectInit ∈ mm_Ws ∧ Cond.code Lib.objectInit ⟨#[0xb1]⟩ 1 none ∈ mm_Ws ∧ Cond.arrayClass .int ∈ mm_Ws ∧ Cond.arrayClass .long ∈ mm_Ws := by decide +kernel
set_option maxRecDepth 100000 in
theorem mm_maxL_ok : ∀ e ∈ mm_maxL, (e.2.2 = 0 → Cond.methodLink (mm_cn e.1) e.2.1 Lib.Math.max.name ∈ mm_Ws) ∧ (e.2.2 = 1 → Cond.methodLink (mm_cn e.1) e.2.1 Lib.MathLoose.max_long.x ∈ mm_Ws) := by decide +kernel
set_option maxRecDepth 100000 in
theorem mm_max_ok : Cond.initialized "java/lang/Math" ∈ mm_Ws ∧ Cond.static Lib.Math.max.name ∈ mm_Ws ∧ Cond.static Lib.MathLoose.max_long.x ∈ mm_Ws := by decide +kernel
set_option maxRecDepth 100000 in
theorem mm_max_code : Cond.code Lib.Math.max.name Lib.Math.max.code 2 (some .int) ∈ mm_Ws ∧ Cond.code Lib.MathLoose.max_long.x Lib.MathLoose.max_long.code 4 (some .long) ∈ mm_Ws := by decide +kernel
set_option maxRecDepth 100000 in
theorem mm_mthL_ok1 : ∀ e ∈ mm_mthL, e.2.2.2.2.1.cls = mm_cn e.2.2.2.1 ∧ plainName e.2.2.2.2.1.cls = true ∧ e.2.2.2.2.2.2.1 ≤ 20 := by decide +kernel
set_option maxRecDepth 100000 in
theorem mm_mthL_ok2 : ∀ e ∈ mm_mthL, e.2.2.2.2.1.cls ≠ "java/lang/invoke/MethodHandle" ∧ e.2.2.2.2.1.cls ≠ "java/lang/invoke/VarHandle" ∧ (parseMethodDescriptor e.2.2.2.2.1.desc).map (fun d => d.parameters.length) = some e.2.2.2.2.2.2.2.2 := by decide +kernel
set_option maxRecDepth 100000 in
theorem mm_mthL_ok3 : ∀ e ∈ mm_mthL, Cond.initialized e.2.2.2.2.1.cls ∈ mm_Ws ∧ (e.2.2.1 = 3 ∨ Cond.methodLink (mm_cn e.1) e.2.1 e.2.2.2.2.1 ∈ mm_Ws) := by decide +kernel
set_option maxRecDepth 100000 in
theorem mm_mthL_ok4 : ∀ e ∈ mm_mthL, e.2.2.1 = 3 → (mm_cn e.1, e.2.1, e.2.2.2.2.1, RX3) ∈ mm_nestL := by decide +kernel
set_option maxRecDepth 100000 in
theorem mm_mthL_ok5 : ∀ e ∈ mm_mthL, e.2.2.1 = 0 → Cond.static e.2.2.2.2.1 ∈ mm_Ws := by decide +kernel
set_option maxRecDepth 100000 in
theorem mm_mthL_ok6 : ∀ e ∈ mm_mthL, e.2.2.1 = 0 ∨ (e.2.2.2.1 < 5 ∧ Cond.instanceMethod e.2.2.2.2.1 ∈ mm_Ws) := by decide +kernel
set_option maxRecDepth 100000 in
theorem mm_mthL_ok7 : ∀ e ∈ mm_mthL, e.2.2.1 = 1 → Cond.selects (mm_cn e.2.2.2.1) e.2.2.2.2.1 e.2.2.2.2.1 ∈ mm_Ws := by decide +kernel
set_option maxRecDepth 100000 in
theorem mm_mthL_ok8 : ∀ e ∈ mm_mthL, (e.2.2.1 = 2 ∨ e.2.2.1 = 3) → e.2.2.2.2.1.name = "<init>" ∧ e.2.2.2.2.2.2.2.1.isNone = true := by decide +kernel
theorem mm_wsC {w : Cond} (h : w ∈ tables_1) (hg : goodWord w = true) : w ∈ mm_Ws := List.mem_filter.mpr ⟨List.mem_append_right _ h, hg⟩
