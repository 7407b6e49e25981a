/-! the instructions that read and write the heap -/
theorem mm_fld_spec {o i ci k : Nat} (h : mm_fld o i = some (ci, k)) : ci < 5 ∧ k < mm_N ci ∧ Cond.fieldLink (mm_cn o) i (mm_F ci k).1 (mm_F ci k).2.1 (mm_F ci k).2.2.1 ∈ mm_Ws ∧ (mm_F ci k).1 = mm_cn ci := by
  obtain ⟨q, hq, hv⟩ := Option.map_eq_some_iff.mp h
  have h1 := List.find?_some hq
  have h2 := mm_fldL_ok q (List.mem_of_find?_eq_some hq)
  simp only [Bool.and_eq_true, beq_iff_eq] at h1
  rw [h1.1, h1.2, hv] at h2
  exact h2
theorem mm_cls_spec {o i k : Nat} (h : mm_cls o i = some k) : (k < 5 → Cond.classLink (mm_cn o) i (mm_cn k) ∈ mm_Ws ∧ Cond.instantiable (mm_cn k) (mm_N k) ∈ mm_Ws ∧ Cond.initialized (mm_cn k) ∈ mm_Ws) ∧ (k = 9 → Cond.classLink (mm_cn o) i ("[" ++ (FieldType.array .int).toString) ∈ mm_Ws) := by
  obtain ⟨q, hq, hv⟩ := Option.map_eq_some_iff.mp h
  have h1 := List.find?_some hq
  have h2 := mm_clsL_ok q (List.mem_of_find?_eq_some hq)
  simp only [Bool.and_eq_true, beq_iff_eq] at h1
  rw [h1.1, h1.2, hv] at h2
  exact h2
theorem mm_max_spec {o i k : Nat} (h : mm_max o i = some k) : (k = 0 → Cond.methodLink (mm_cn o) i Lib.Math.max.name ∈ mm_Ws) ∧ (k = 1 → Cond.methodLink (mm_cn o) i Lib.MathLoose.max_long.x ∈ mm_Ws) := by
  obtain ⟨q, hq, hv⟩ := Option.map_eq_some_iff.mp h
  have h1 := List.find?_some hq
  have h2 := mm_maxL_ok q (List.mem_of_find?_eq_some hq)
  simp only [Bool.and_eq_true, beq_iff_eq] at h1
  rw [h1.1, h1.2, hv] at h2
  exact h2
theorem mm_sh_nar {B : Nat × Nat} {ty : FieldType} {v : Value} (h : narrow ty v = v) : narrow ty (mm_sh B v) = mm_sh B v := by
  cases v <;> first | exact h | (cases ty <;> rfl)
theorem mm_sh_fit {B : Nat × Nat} {ty : FieldType} {v : Value} (h : fits ty v = true) : fits ty (mm_sh B v) = true := by
  cases v <;> first | exact h | (cases ty <;> first | rfl | (exact absurd h (by decide)) | exact h)
theorem mm_arrV {cA : ClassId} {n : Nat} {f g : Nat → Value} (h : ∀ j, j < n → f j = g j) : arrV cA n f = arrV cA n g := by
  unfold arrV
  congr 2
  funext j
  exact h j.val j.isLt
theorem mm_sh_df (B : Nat × Nat) (t : FieldType) : mm_sh B (defaultValue t) = defaultValue t := by cases t <;> rfl
theorem mm_cellO {D : va_G} {B : Nat × Nat} {a ci : Nat} {fs : List Value} {H : Heap} (h5 : ci < 5) (h : mm_cell D B a (ci, fs) H) : fs.length = mm_N ci ∧ t_OB (mm_am B a) (D.1 ci) (mm_N ci) (D.2 ci) H (vp_V (fs.map (mm_sh B))) := by
  unfold mm_cell at h
  rw [if_pos (show (ci, fs).1 < 5 from h5)] at h
  exact h
theorem mm_cellA {D : va_G} {B : Nat × Nat} {a ci : Nat} {fs : List Value} {H : Heap} (h5 : ¬ ci < 5) (h : mm_cell D B a (ci, fs) H) : H[mm_am B a]? = some (arrV (D.1 ci) fs.length (vp_V (fs.map (mm_sh B)))) := by
  unfold mm_cell at h
  rw [if_neg (show ¬ (ci, fs).1 < 5 from h5)] at h
  exact h
theorem mm_ofA {D : va_G} {B : Nat × Nat} {a ci : Nat} {fs : List Value} {H : Heap} (h5 : ¬ ci < 5) (h : H[mm_am B a]? = some (arrV (D.1 ci) fs.length (vp_V (fs.map (mm_sh B))))) : mm_cell D B a (ci, fs) H := by
  unfold mm_cell
  rw [if_neg (show ¬ (ci, fs).1 < 5 from h5)]
  exact h
theorem mm_vV {B : Nat × Nat} {fs : List Value} {j : Nat} {v : Value} (h : fs[j]? = some v) : vp_V (fs.map (mm_sh B)) j = mm_sh B v := by
  simp [vp_V, List.getD, h]
theorem mm_setA {B : Nat × Nat} {cA : ClassId} {fs : List Value} {k : Nat} (hk : k < fs.length) (v : Value) : (arrV cA fs.length (vp_V (fs.map (mm_sh B)))).setSlot k (mm_sh B v) = arrV cA (fs.set k v).length (vp_V ((fs.set k v).map (mm_sh B))) := by
  rw [arrV_store, List.length_set]
  refine mm_arrV (fun j _ => ?_)
  rw [vp_updV_set (by rw [List.length_map]; exact hk), List.map_set]
theorem mm_ix_spec {vs : List Value} {j : Int32} {v : Value} (h : mm_ix vs j = some v) : ¬ j < 0 ∧ j.toNatClampNeg < vs.length ∧ vs[j.toNatClampNeg]? = some v := by
  unfold mm_ix at h
  by_cases hj : j < 0
  · rw [if_pos hj] at h
    cases h
  · rw [if_neg hj] at h
    exact ⟨hj, (List.getElem?_eq_some_iff.mp h).1, h⟩
section MG
variable {p : Program} {l : Launch} {e : Env} {R : Room} {s : State} {m : MethodId} {args : Array Value} {below : List Frame} {meth : Method} {c : Code} {Q : State → Prop} {D : va_G} {B : Nat × Nat} {M : mm_T}
variable {pc cells slots : Nat} {ls : mm_L} {st r : List Value} {h : mm_H}
theorem mg_get (C : mm_Ctx p s m args meth c D B M) {i ci k a : Nat} {fs : List Value} {v : Value} (hd : decode M.2.2.1 pc = .ok (.getfield i, 3)) (hf : mm_fld M.1 i = some (ci, k)) (hc : h.2.2 a = some (ci, fs)) (hv : fs[k]? = some v) (kk : mm_G p l e R s m args below meth c Q D B M (pc + 3) ls (v :: r) h cells slots) : mm_G p l e R s m args below meth c Q D B M pc ls (.ref a :: r) h cells slots := fun H locs lsA hP hS hl => by
  obtain ⟨h5, hkN, hlink, -⟩ := mm_fld_spec hf
  have hcell := mm_cellO h5 (hP.2.2 a _ hc).2.2
  have hP1 : va_P D vwCl [(mm_am B a, .inr (ci, fs.map (mm_sh B)))] H := fun j q hj => by
    have hz : j < 1 := (List.getElem?_eq_some_iff.mp hj).1
    rw [show j = 0 by omega] at hj
    cases hj
    exact ⟨_, mm_cl_at ci h5, hcell.2⟩
  exact va_get (tys := mm_tys D) (Ts := mm_Ws) C.1 C.2.1 C.2.2.2.2.1 (mm_lay_ok ci h5) C.2.2.2.1 C.2.2.2.2.2.1.1 hP1 0 rfl (mm_cl_at ci h5) k hkN (C.2.2.2.2.1 _ hlink) (fun _ h9 => h9) (v := mm_sh B v) (by rw [List.getElem?_map, hv]; rfl) hd (kk H locs lsA hP hS hl)
set_option maxHeartbeats 1000000 in
theorem mg_put (C : mm_Ctx p s m args meth c D B M) {i ci k a : Nat} {fs : List Value} {v : Value} (hd : decode M.2.2.1 pc = .ok (.putfield i, 3)) (hf : mm_fld M.1 i = some (ci, k)) (hc : h.2.2 a = some (ci, fs)) (hk : k < fs.length) (hn : narrow (mm_ty ci k) v = v) (hft : fits (mm_ty ci k) v = true) (hfin : (mm_F ci k).2.2.2 = false ∨ (M.2.1.name = "<init>" ∧ M.1 = ci)) (kk : mm_G p l e R s m args below meth c Q D B M (pc + 3) ls r (mm_up h a (ci, fs.set k v)) cells slots) : mm_G p l e R s m args below meth c Q D B M pc ls (v :: .ref a :: r) h cells slots := fun H locs lsA hP hS hl => by
  obtain ⟨h5, hkN, hlink, hcn⟩ := mm_fld_spec hf
  obtain ⟨ha0, hal, hce⟩ := hP.2.2 a _ hc
  obtain ⟨hlen, cell, q1, q2, q3, q4⟩ := mm_cellO h5 hce
  obtain ⟨hx, hb, hml, hown, hts, hWF, hnm, hB1, hB2⟩ := C
  have hK := hWF.1
  have hin := mm_lay_ok ci h5
  have hcl := mm_cl_at ci h5
  have hap := va_apart (own := mm_cn M.1) hts hin (mm_ty ci) (mm_ty_ok ci h5) (mm_nm_ok ci h5) hK hcl
  obtain ⟨hSl, hfc, kC, hkC, hkind⟩ := hK.1 ci _ hcl
  obtain ⟨cf, kf, fi, f, hi, hsl⟩ := hSl k hkN
  have hlay := hts _ (hin _ (u_in_lay hkN))
  have hst := (u_facts hfc hkC (u_lays hts hin hkN) hi).1
  have hdt := mm_ty_ok ci h5 k hkN
  have hn' : narrow (mm_ty ci k) (mm_sh B v) = mm_sh B v := mm_sh_nar hn
  have hf' : fits (mm_ty ci k) (mm_sh B v) = true := mm_sh_fit hft
  have haA : B.2 ≤ mm_am B a := by
    unfold mm_am
    rw [if_neg (by omega)]
    omega
  have fin : ∀ H' : Heap, H'[mm_am B a]? = some (cell.setSlot f.slot (mm_sh B v)) → H'.size = H.size → (∀ q, q ≠ mm_am B a → H'[q]? = H[q]?) → W p l e R s m args below meth c H' (locs ++ [⟨mm_am B a, f.slot⟩]) cells slots Q (F0 m (pc + 3) lsA (r.map (mm_sh B))) := fun H' e1 e2 e3 => by
    rw [hsl] at e1 ⊢
    refine kk H' _ lsA (hP.up hc ?_ e2 e3) (hS.put e2 e3 haA) hl
    unfold mm_cell
    rw [if_pos (show (ci, fs.set k v).1 < 5 from h5)]
    refine ⟨by show (fs.set k v).length = _; rw [List.length_set]; exact hlen, ?_⟩
    refine t_OB.to (V := updV (vp_V (fs.map (mm_sh B))) k (mm_sh B v)) ⟨_, e1, q2, q3, t_set q4 hap hkN (mm_sh B v)⟩ (fun j _ => ?_)
    rw [vp_updV_set (by rw [List.length_map]; exact hk), List.map_set]
  unfold u_lay at hlay
  by_cases hfl : (mm_F ci k).2.2.2 = false
  · rw [if_neg (by rw [hfl]; decide)] at hlay
    have h6 := u_store hfc hkC hkind hlay hi hdt hn' hf'
    exact W.putK hx hb (f := f) ⟨hown, hts _ hlink, ⟨_, _, _, hi⟩, hst⟩ (by rw [q2]; exact h6) q1 q3 (by rw [hsl]; exact k2_hasslot (q4 k hkN)) rfl rfl hd fin
  · have hft2 : (mm_F ci k).2.2.2 = true := by revert hfl; cases (mm_F ci k).2.2.2 <;> simp
    obtain ⟨hnm2, hMc⟩ := hfin.resolve_left hfl
    rw [if_pos hft2] at hlay
    have hcf : m.cls = cf := by
      obtain ⟨_, _, c', _, _, _, -, -, hf', -, -, -, hown2, -⟩ := Cond.laysFinal_spec hlay
      have e1 : c' = cf := by have := hi.symm.trans hf'; simp at this; exact this.1.symm
      rw [hcn, ← hMc] at hown2
      rw [← e1]; exact Option.some.inj (hown.symm.trans hown2)
    have h6 := u_fits hfc hkC hkind (Or.inr hlay) hi hdt hn' hf'
    exact W.putFinK hx hb hown (hts _ hlink) hi hst hcf (hnm hnm2) (by rw [q2]; exact h6) q1 q3 (by rw [hsl]; exact k2_hasslot (q4 k hkN)) rfl rfl hd fin
theorem mg_iald (C : mm_Ctx p s m args meth c D B M) {a : Nat} {vs : List Value} {j : Int32} {v : Value} (hd : decode M.2.2.1 pc = .ok (.iaload, 1)) (hc : h.2.2 a = some (5, vs)) (hv : mm_ix vs j = some v) (kk : mm_G p l e R s m args below meth c Q D B M (pc + 1) ls (v :: r) h cells slots) : mm_G p l e R s m args below meth c Q D B M pc ls (.int j :: .ref a :: r) h cells slots := fun H locs lsA hP hS hl => by
  obtain ⟨h1, h2, h3⟩ := mm_ix_spec hv
  have hcell := mm_cellA (by decide) (hP.2.2 a _ hc).2.2
  exact W.iald (v := mm_sh B v) C.1 C.2.1 hcell ((C.2.2.2.2.2.1.1.2 0 _ rfl).1 _ _) (fun q => by cases q) (by rw [arrV_size]; exact fun q => q.elim h1 (fun q => absurd h2 (Nat.not_lt.mpr q))) (by rw [arrV_read _ _ h2, mm_vV h3]) rfl rfl hd (kk H locs lsA hP hS hl)
theorem mg_lald (C : mm_Ctx p s m args meth c D B M) {a : Nat} {vs : List Value} {j : Int32} {v : Value} (hd : decode M.2.2.1 pc = .ok (.laload, 1)) (hc : h.2.2 a = some (6, vs)) (hv : mm_ix vs j = some v) (kk : mm_G p l e R s m args below meth c Q D B M (pc + 1) ls (v :: r) h cells slots) : mm_G p l e R s m args below meth c Q D B M pc ls (.int j :: .ref a :: r) h cells slots := fun H locs lsA hP hS hl => by
  obtain ⟨h1, h2, h3⟩ := mm_ix_spec hv
  have hcell := mm_cellA (by decide) (hP.2.2 a _ hc).2.2
  exact W.lald (v := mm_sh B v) C.1 C.2.1 hcell ((C.2.2.2.2.2.1.1.2 1 _ rfl).1 _ _) (fun q => by cases q) (by rw [arrV_size]; exact fun q => q.elim h1 (fun q => absurd h2 (Nat.not_lt.mpr q))) (by rw [arrV_read _ _ h2, mm_vV h3]) rfl rfl hd (kk H locs lsA hP hS hl)
theorem mg_aald (C : mm_Ctx p s m args meth c D B M) {a ci : Nat} {vs : List Value} {j : Int32} {v : Value} (hd : decode M.2.2.1 pc = .ok (.aaload, 1)) (hci : ci = 7 ∨ ci = 8 ∨ ci = 9) (hc : h.2.2 a = some (ci, vs)) (hv : mm_ix vs j = some v) (kk : mm_G p l e R s m args below meth c Q D B M (pc + 1) ls (v :: r) h cells slots) : mm_G p l e R s m args below meth c Q D B M pc ls (.int j :: .ref a :: r) h cells slots := fun H locs lsA hP hS hl => by
  obtain ⟨h1, h2, h3⟩ := mm_ix_spec hv
  have hcell := mm_cellA (by omega) (hP.2.2 a _ hc).2.2
  have key : ∀ ty : FieldType, ty.isReference = true → ArrOfT s (D.1 ci) ty → W p l e R s m args below meth c H locs cells slots Q (F0 m pc lsA ((Value.int j :: .ref a :: r).map (mm_sh B))) := fun ty ht hA =>
    W.aald (v := mm_sh B v) (ty := ty) C.1 C.2.1 hcell (hA _ _) ht (fun q => by cases q) (by rw [arrV_size]; exact fun q => q.elim h1 (fun q => absurd h2 (Nat.not_lt.mpr q))) (by rw [arrV_read _ _ h2, mm_vV h3]) rfl rfl hd (kk H locs lsA hP hS hl)
  have hK := C.2.2.2.2.2.1.1
  rcases hci with rfl | rfl | rfl
  · exact key _ rfl (hK.2 2 _ rfl).1
  · exact key _ rfl (hK.2 3 _ rfl).1
  · exact key _ rfl (hK.2 4 _ rfl).1
theorem mg_iast (C : mm_Ctx p s m args meth c D B M) {a : Nat} {vs : List Value} {j x : Int32} (hd : decode M.2.2.1 pc = .ok (.iastore, 1)) (hc : h.2.2 a = some (5, vs)) (h1 : ¬ j < 0) (h2 : j.toNatClampNeg < vs.length) (kk : mm_G p l e R s m args below meth c Q D B M (pc + 1) ls r (mm_up h a (5, vs.set j.toNatClampNeg (.int x))) cells slots) : mm_G p l e R s m args below meth c Q D B M pc ls (.int x :: .int j :: .ref a :: r) h cells slots := fun H locs lsA hP hS hl => by
  obtain ⟨g1, g2, g3⟩ := hP.2.2 a _ hc
  have hcell := mm_cellA (by decide) g3
  refine W.iast C.1 C.2.1 hcell ((C.2.2.2.2.2.1.1.2 0 _ rfl).1 _ _) (fun q => by cases q) (by rw [arrV_size]; exact fun q => q.elim h1 (fun q => absurd h2 (Nat.not_lt.mpr q))) rfl rfl hd fun H' e1 e2 e3 => ?_
  refine kk H' _ lsA (hP.up hc (mm_ofA (by decide) ?_) e2 e3) (hS.put e2 e3 ?_) hl
  · rw [e1]
    exact congrArg some (mm_setA h2 (.int x))
  · show B.2 ≤ mm_am B a
    unfold mm_am
    rw [if_neg (by omega)]
    omega
theorem mg_last (C : mm_Ctx p s m args meth c D B M) {a : Nat} {vs : List Value} {j : Int32} {x : Int64} (hd : decode M.2.2.1 pc = .ok (.lastore, 1)) (hc : h.2.2 a = some (6, vs)) (h1 : ¬ j < 0) (h2 : j.toNatClampNeg < vs.length) (kk : mm_G p l e R s m args below meth c Q D B M (pc + 1) ls r (mm_up h a (6, vs.set j.toNatClampNeg (.long x))) cells slots) : mm_G p l e R s m args below meth c Q D B M pc ls (.long x :: .int j :: .ref a :: r) h cells slots := fun H locs lsA hP hS hl => by
  obtain ⟨g1, g2, g3⟩ := hP.2.2 a _ hc
  have hcell := mm_cellA (by decide) g3
  refine W.last C.1 C.2.1 hcell ((C.2.2.2.2.2.1.1.2 1 _ rfl).1 _ _) (fun q => by cases q) (by rw [arrV_size]; exact fun q => q.elim h1 (fun q => absurd h2 (Nat.not_lt.mpr q))) rfl rfl hd fun H' e1 e2 e3 => ?_
  refine kk H' _ lsA (hP.up hc (mm_ofA (by decide) ?_) e2 e3) (hS.put e2 e3 ?_) hl
  · rw [e1]
    exact congrArg some (mm_setA h2 (.long x))
  · show B.2 ≤ mm_am B a
    unfold mm_am
    rw [if_neg (by omega)]
    omega
theorem mg_aastN (C : mm_Ctx p s m args meth c D B M) {a ci : Nat} {vs : List Value} {j : Int32} (hd : decode M.2.2.1 pc = .ok (.aastore, 1)) (hci : ci = 7 ∨ ci = 8) (hc : h.2.2 a = some (ci, vs)) (h1 : ¬ j < 0) (h2 : j.toNatClampNeg < vs.length) (kk : mm_G p l e R s m args below meth c Q D B M (pc + 1) ls r (mm_up h a (ci, vs.set j.toNatClampNeg .null)) cells slots) : mm_G p l e R s m args below meth c Q D B M pc ls (.null :: .int j :: .ref a :: r) h cells slots := fun H locs lsA hP hS hl => by
  obtain ⟨g1, g2, g3⟩ := hP.2.2 a _ hc
  have hcell := mm_cellA (by omega) g3
  have key : ∀ C9 : String, ArrOfT s (D.1 ci) (.object C9) → W p l e R s m args below meth c H locs cells slots Q (F0 m pc lsA ((Value.null :: .int j :: .ref a :: r).map (mm_sh B))) := fun C9 hA => by
    refine va_WaastN (C := C9) C.1 C.2.1 hcell (hA _ _) (fun q => by cases q) (by rw [arrV_size]; exact fun q => q.elim h1 (fun q => absurd h2 (Nat.not_lt.mpr q))) rfl rfl hd fun H' e1 e2 e3 => ?_
    refine kk H' _ lsA (hP.up hc (mm_ofA (by omega) ?_) e2 e3) (hS.put e2 e3 ?_) hl
    · rw [e1]
      exact congrArg some (mm_setA h2 .null)
    · show B.2 ≤ mm_am B a
      unfold mm_am
      rw [if_neg (by omega)]
      omega
  have hK := C.2.2.2.2.2.1.1
  rcases hci with rfl | rfl
  · exact key _ (hK.2 2 _ rfl).1
  · exact key _ (hK.2 3 _ rfl).1
theorem mg_aast (C : mm_Ctx p s m args meth c D B M) {a b ci : Nat} {vs us : List Value} {j : Int32} (hd : decode M.2.2.1 pc = .ok (.aastore, 1)) (hci : ci = 0 ∨ ci = 1) (hc : h.2.2 a = some (7 + ci, vs)) (hb9 : h.2.2 b = some (ci, us)) (h1 : ¬ j < 0) (h2 : j.toNatClampNeg < vs.length) (kk : mm_G p l e R s m args below meth c Q D B M (pc + 1) ls r (mm_up h a (7 + ci, vs.set j.toNatClampNeg (.ref b))) cells slots) : mm_G p l e R s m args below meth c Q D B M pc ls (.ref b :: .int j :: .ref a :: r) h cells slots := fun H locs lsA hP hS hl => by
  obtain ⟨g1, g2, g3⟩ := hP.2.2 a _ hc
  have hcell := mm_cellA (by omega) g3
  have h5 : ci < 5 := by omega
  obtain ⟨-, cellV, f1, f2, f3, -⟩ := mm_cellO h5 (hP.2.2 b _ hb9).2.2
  have hK := C.2.2.2.2.2.1.1
  have hcls := (hK.1 ci _ (mm_cl_at ci h5)).2
  have hRA : va_RA s (D.1 (7 + ci)) (.object (mm_cn ci)) := by
    rcases hci with rfl | rfl
    · exact (hK.2 2 _ rfl).2
    · exact (hK.2 3 _ rfl).2
  obtain ⟨kA, comp, k1, k2, k3, -⟩ := hRA
  have hcomp : comp = D.1 ci := Option.some.inj (k3.symm.trans hcls.1)
  subst hcomp
  obtain ⟨kC, hkC, -⟩ := hcls.2
  refine W.aast C.1 C.2.1 hcell (fun q h => by cases h) (fun h => by cases h) k1 k2 rfl hkC ⟨h1, by rw [arrV_size]; exact h2⟩ f1 (fun q h => by rw [f3] at h; cases h) (by rw [f2]; exact hkC) (by rw [f2]; exact va_assign hcls) rfl rfl hd fun H' e1 e2 e3 => ?_
  refine kk H' _ lsA (hP.up hc (mm_ofA (by omega) ?_) e2 e3) (hS.put e2 e3 ?_) hl
  · rw [e1]
    exact congrArg some (mm_setA h2 (.ref b))
  · show B.2 ≤ mm_am B a
    unfold mm_am
    rw [if_neg (by omega)]
    omega
theorem mg_sld (C : mm_Ctx p s m args meth c D B M) {xs : List Int32} (hX : va_X B.1 xs.length (fun j => xs.getD j 0) s s.heap) {j x : Int32} (hd : decode M.2.2.1 pc = .ok (.iaload, 1)) (h1 : ¬ j < 0) (hv : xs[j.toNatClampNeg]? = some x) (kk : mm_G p l e R s m args below meth c Q D B M (pc + 1) ls (.int x :: r) h cells slots) : mm_G p l e R s m args below meth c Q D B M pc ls (.int j :: .ref 0 :: r) h cells slots := fun H locs lsA hP hS hl => by
  have hlt := (List.getElem?_eq_some_iff.mp hv).1
  have hx : xs.getD j.toNatClampNeg 0 = x := by simp [List.getD, hv]
  have k := kk H locs lsA hP hS hl
  rw [← hx] at k
  exact va_sld (A := fun q => B.2 ≤ q) C.1 C.2.1 hX (by have := C.2.2.2.2.2.2.2; omega) (Nat.not_le.mpr C.2.2.2.2.2.2.2.1) hS (fun q => q.elim h1 (fun q => absurd hlt (Nat.not_lt.mpr q))) hd k
theorem mg_slen (C : mm_Ctx p s m args meth c D B M) {xs : List Int32} (hX : va_X B.1 xs.length (fun j => xs.getD j 0) s s.heap) (hd : decode M.2.2.1 pc = .ok (.arraylength, 1)) (kk : mm_G p l e R s m args below meth c Q D B M (pc + 1) ls (.int (Int32.ofNat xs.length) :: r) h cells slots) : mm_G p l e R s m args below meth c Q D B M pc ls (.ref 0 :: r) h cells slots := fun H locs lsA hP hS hl =>
  va_slen (A := fun q => B.2 ≤ q) (b := B.1) C.1 C.2.1 hX (by have := C.2.2.2.2.2.2.2; omega) (Nat.not_le.mpr C.2.2.2.2.2.2.2.1) hS hd (kk H locs lsA hP hS hl)
theorem mg_new (C : mm_Ctx p s m args meth c D B M) {i k : Nat} (hd : decode M.2.2.1 pc = .ok (.new i, 3)) (hk : mm_cls M.1 i = some k) (h5 : k < 5) (hcl : cells + 1 ≤ R.cells) (hsl : slots + (mm_df k).length ≤ R.slots) (kk : mm_G p l e R s m args below meth c Q D B M (pc + 3) ls (.ref h.1 :: st) (mm_new h (k, mm_df k)) (cells + 1) (slots + (mm_df k).length)) : mm_G p l e R s m args below meth c Q D B M pc ls st h cells slots := fun H locs lsA hP hS hl => by
  have hN : (mm_df k).length = mm_N k := by simp [mm_df]
  rw [hN] at hsl kk
  obtain ⟨w1, w2, w3⟩ := (mm_cls_spec hk).1 h5
  obtain ⟨hx, hb, hml, hown, hts, hWF, hnm, hB1, hB2⟩ := C
  have hKn := hWF.1.1 k _ (mm_cl_at k h5)
  have ham := hP.am
  refine W.newcK hx hb hown (hts _ w1) (hts _ w2) (hts _ w3) rfl hd hcl hsl hKn.2.1 ham.symm fun H1 kC hkC e1 z1 o1 => ?_
  have kk2 := kk H1 locs lsA (hP.new ?_ (by rw [z1, ham]) (fun q hq => o1 q (by rw [ham]; exact hq))) ⟨Nat.le_trans hS.1 (by rw [z1, ham]; omega), fun q h1 h2 => by rw [o1 q (by rw [ham]; exact Nat.lt_of_lt_of_le h1 hS.1)]; exact hS.2.1 q h1 h2, hS.2.2⟩ hl
  · exact kk2
  · unfold mm_cell
    rw [if_pos (show (k, mm_df k).1 < 5 from h5)]
    refine ⟨hN, ?_⟩
    refine (u_born (mm_ty k) hts (mm_lay_ok k h5) hKn hkC e1 (mm_ty_ok k h5)).to (fun j hj => ?_)
    have : (mm_df k)[j]? = some (defaultValue (mm_ty k j)) := by simp [mm_df, hj]
    rw [mm_vV this, mm_sh_df]
theorem mg_newI (C : mm_Ctx p s m args meth c D B M) {n : Int32} (hd : decode M.2.2.1 pc = .ok (.newarray .int, 2)) (h1 : ¬ n < 0) (h2 : ¬ 10000 < n.toNatClampNeg) (hcl : cells + 1 ≤ R.cells) (hsl : slots + n.toNatClampNeg ≤ R.slots) (kk : mm_G p l e R s m args below meth c Q D B M (pc + 2) ls (.ref h.1 :: r) (mm_new h (5, List.replicate n.toNatClampNeg (.int 0))) (cells + 1) (slots + n.toNatClampNeg)) : mm_G p l e R s m args below meth c Q D B M pc ls (.int n :: r) h cells slots := fun H locs lsA hP hS hl => by
  obtain ⟨hx, hb, hml, hown, hts, hWF, hnm, hB1, hB2⟩ := C
  have ham := hP.am
  refine va_newaK (atype := .int) hx hb (hts _ mm_obj_ok.2.2.1) rfl hd rfl h1 rfl (by show n.toNatClampNeg * 4 ≤ _; omega) hcl hsl ham.symm fun H1 cA e1 z1 o1 hAr hNm => ?_
  have hcA : cA = D.1 5 := Option.some.inj (hNm.symm.trans (hWF.1.2 0 _ rfl).2)
  refine kk H1 locs lsA (hP.new (mm_ofA (by decide) ?_) (by rw [z1, ham]) (fun q hq => o1 q (by rw [ham]; exact hq))) ⟨Nat.le_trans hS.1 (by rw [z1, ham]; omega), fun q h1 h2 => by rw [o1 q (by rw [ham]; exact Nat.lt_of_lt_of_le h1 hS.1)]; exact hS.2.1 q h1 h2, hS.2.2⟩ hl
  rw [e1, hcA, List.length_replicate]
  refine congrArg some (mm_arrV (fun j hj => ?_))
  rw [mm_vV (v := .int 0) (by simp [hj])]
  rfl
theorem mg_newJ (C : mm_Ctx p s m args meth c D B M) {n : Int32} (hd : decode M.2.2.1 pc = .ok (.newarray .long, 2)) (h1 : ¬ n < 0) (h2 : ¬ 10000 < n.toNatClampNeg) (hcl : cells + 1 ≤ R.cells) (hsl : slots + n.toNatClampNeg ≤ R.slots) (kk : mm_G p l e R s m args below meth c Q D B M (pc + 2) ls (.ref h.1 :: r) (mm_new h (6, List.replicate n.toNatClampNeg (.long 0))) (cells + 1) (slots + n.toNatClampNeg)) : mm_G p l e R s m args below meth c Q D B M pc ls (.int n :: r) h cells slots := fun H locs lsA hP hS hl => by
  obtain ⟨hx, hb, hml, hown, hts, hWF, hnm, hB1, hB2⟩ := C
  have ham := hP.am
  refine va_newaK (atype := .long) hx hb (hts _ mm_obj_ok.2.2.2) rfl hd rfl h1 rfl (by show n.toNatClampNeg * 8 ≤ _; omega) hcl hsl ham.symm fun H1 cA e1 z1 o1 hAr hNm => ?_
  have hcA : cA = D.1 6 := Option.some.inj (hNm.symm.trans (hWF.1.2 1 _ rfl).2)
  refine kk H1 locs lsA (hP.new (mm_ofA (by decide) ?_) (by rw [z1, ham]) (fun q hq => o1 q (by rw [ham]; exact hq))) ⟨Nat.le_trans hS.1 (by rw [z1, ham]; omega), fun q h1 h2 => by rw [o1 q (by rw [ham]; exact Nat.lt_of_lt_of_le h1 hS.1)]; exact hS.2.1 q h1 h2, hS.2.2⟩ hl
  rw [e1, hcA, List.length_replicate]
  refine congrArg some (mm_arrV (fun j hj => ?_))
  rw [mm_vV (v := .long 0) (by simp [hj])]
  rfl
theorem mg_newA (C : mm_Ctx p s m args meth c D B M) {n : Int32} {i k : Nat} (hd : decode M.2.2.1 pc = .ok (.anewarray i, 3)) (hk : mm_cls M.1 i = some k) (h5 : k = 0 ∨ k = 1) (h1 : ¬ n < 0) (h2 : ¬ 10000 < n.toNatClampNeg) (hcl : cells + 1 ≤ R.cells) (hsl : slots + n.toNatClampNeg ≤ R.slots) (kk : mm_G p l e R s m args below meth c Q D B M (pc + 3) ls (.ref h.1 :: r) (mm_new h (7 + k, List.replicate n.toNatClampNeg .null)) (cells + 1) (slots + n.toNatClampNeg)) : mm_G p l e R s m args below meth c Q D B M pc ls (.int n :: r) h cells slots := fun H locs lsA hP hS hl => by
  obtain ⟨hx, hb, hml, hown, hts, hWF, hnm, hB1, hB2⟩ := C
  have ham := hP.am
  obtain ⟨w1, -, -⟩ := (mm_cls_spec hk).1 (by omega)
  have hover : (Cond.arrayOver (.object (mm_cn k))).before args s = true := by
    rcases h5 with rfl | rfl
    · exact va_AO.use hWF.2.1
    · exact va_AO.use hWF.2.2.1
  have hRA : va_RA s (D.1 (7 + k)) (.object (mm_cn k)) := by
    rcases h5 with rfl | rfl
    · exact (hWF.1.2 2 _ rfl).2
    · exact (hWF.1.2 3 _ rfl).2
  obtain ⟨kA2, comp2, -, -, -, k4⟩ := hRA
  refine W.anew hx hb hown (hts _ w1) hover rfl hd rfl h1 (by omega) hcl hsl fun cA kA comp f1 f2 f3 f4 => ?_
  have hcA : cA = D.1 (7 + k) := Option.some.inj (f1.symm.trans k4)
  subst hcA
  generalize hH1 : H.push ({ cls := D.1 (7 + k), slots := Array.replicate n.toNatClampNeg .null, vm := .none } : Cell) = H1
  have z1 : H1.size = H.size + 1 := by rw [← hH1, Array.size_push]
  have e1 : H1[H.size]? = some (arrV (D.1 (7 + k)) n.toNatClampNeg (fun _ => .null)) := by rw [← hH1, Array.getElem?_push_size, ← arrV_new]
  have o1 : ∀ q : Nat, q < H.size → H1[q]? = H[q]? := fun q hq => by rw [← hH1, Array.getElem?_push, if_neg (Nat.ne_of_lt hq)]
  have kk2 := kk H1 locs lsA (hP.new (mm_ofA (by omega) ?_) z1 o1) ⟨Nat.le_trans hS.1 (by omega), fun q h1 h2 => by rw [o1 q (Nat.lt_of_lt_of_le h1 hS.1)]; exact hS.2.1 q h1 h2, hS.2.2⟩ hl
  · have e : mm_sh B (.ref h.1) = .ref H.size := congrArg Value.ref ham
    have e2 : ((Value.ref h.1 :: r).map (mm_sh B)) = .ref H.size :: r.map (mm_sh B) := by rw [List.map_cons, e]
    rw [e2] at kk2
    exact kk2
  · rw [ham, e1, List.length_replicate]
    refine congrArg some (mm_arrV (fun j hj => ?_))
    rw [mm_vV (v := .null) (by simp [hj])]
    rfl
theorem mg_maxI (C : mm_Ctx p s m args meth c D B M) {i : Nat} {x y : Int32} (hd : decode M.2.2.1 pc = .ok (.invokestatic i, 3)) (hm : mm_max M.1 i = some 0) (hF1 : 1 ≤ R.frames) (hF2 : 40 ≤ R.locals) (hcs : (r.map fun v => v.category).sum ≤ 8) (hcl : cells ≤ R.cells) (hsl : slots ≤ R.slots) (kk : mm_G p l e R s m args below meth c Q D B M (pc + 3) ls (.int (if x < y then y else x) :: r) h cells slots) : mm_G p l e R s m args below meth c Q D B M pc ls (.int y :: .int x :: r) h cells slots := fun H locs lsA hP hS hl => by
  obtain ⟨hx, hb, hml, hown, hts, hWF, hnm, hB1, hB2⟩ := C
  have hsum : ((r.map (mm_sh B)).map fun v => v.category).sum ≤ 8 := by
    rw [List.map_map]
    have : ((fun v : Value => v.category) ∘ mm_sh B) = fun v => v.category := funext fun v => mm_sh_cat B v
    rw [this]
    exact hcs
  exact va_mmax hx hb (by rw [hml]; exact hl.1.symm) hown (hts _ ((mm_max_spec hm).1 rfl)) (hts _ mm_max_ok.2.1) (hts _ mm_max_ok.1) (hts _ mm_max_code.1) hF1 (by omega) hcl hsl hd (kk H locs lsA hP hS hl)
theorem mg_maxJ (C : mm_Ctx p s m args meth c D B M) {i : Nat} {x y : Int64} (hd : decode M.2.2.1 pc = .ok (.invokestatic i, 3)) (hm : mm_max M.1 i = some 1) (hF1 : 1 ≤ R.frames) (hF2 : 40 ≤ R.locals) (hcs : (r.map fun v => v.category).sum ≤ 8) (hcl : cells ≤ R.cells) (hsl : slots ≤ R.slots) (kk : mm_G p l e R s m args below meth c Q D B M (pc + 3) ls (.long (if y < x then x else y) :: r) h cells slots) : mm_G p l e R s m args below meth c Q D B M pc ls (.long y :: .long x :: r) h cells slots := fun H locs lsA hP hS hl => by
  obtain ⟨hx, hb, hml, hown, hts, hWF, hnm, hB1, hB2⟩ := C
  have hsum : ((r.map (mm_sh B)).map fun v => v.category).sum ≤ 8 := by
    rw [List.map_map]
    have : ((fun v : Value => v.category) ∘ mm_sh B) = fun v => v.category := funext fun v => mm_sh_cat B v
    rw [this]
    exact hcs
  exact va_mmax_long hx hb (by rw [hml]; exact hl.1.symm) hown (hts _ ((mm_max_spec hm).2 rfl)) (hts _ mm_max_ok.2.2) (hts _ mm_max_ok.1) (hts _ mm_max_code.2) hF1 (by omega) hcl hsl hd (kk H locs lsA hP hS hl)
theorem mg_obj (C : mm_Ctx p s m args meth c D B M) {i a : Nat} (hd : decode M.2.2.1 pc = .ok (.invokespecial i, 3)) (hm : (M.1, i) ∈ mm_objL) (hF1 : 1 ≤ R.frames) (hF2 : 40 ≤ R.locals) (hcs : (r.map fun v => v.category).sum ≤ 8) (kk : mm_G p l e R s m args below meth c Q D B M (pc + 3) ls r h cells slots) : mm_G p l e R s m args below meth c Q D B M pc ls (.ref a :: r) h cells slots := fun H locs lsA hP hS hl => by
  obtain ⟨hx, hb, hml, hown, hts, hWF, hnm, hB1, hB2⟩ := C
  have hsum : ((r.map (mm_sh B)).map fun v => v.category).sum ≤ 8 := by
    rw [List.map_map]
    have : ((fun v : Value => v.category) ∘ mm_sh B) = fun v => v.category := funext fun v => mm_sh_cat B v
    rw [this]
    exact hcs
  exact W.objInit hx hb hown (hts _ (mm_objL_ok _ hm)) (hts _ mm_obj_ok.1) (hts _ mm_obj_ok.2.1) rfl (by rw [hml]; exact hl.1) rfl hd hF1 (by show 2 * 0 + _ + 12 ≤ _; omega) (kk H locs lsA hP hS hl)
end MG
