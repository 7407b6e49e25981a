-- ===== end of PART A; then your names; then what follows =====
/-! THE CLAIM OUT OF ONE WALK OF THE LAW'S BODY. Your part is whole_start (and what it stands on); all else here is the same for every law, but numbers. -/
def R_law : String := "BellHouseLaw"
def lw_P (b : Addr) (xs : List Int32) (args : Array Value) (s : State) : Prop := args = #[.ref b] ∧ s.IntsAt b xs ∧ xs.length ≤ 2048 ∧ (Jvm.Cond.and given_1 narrow_1).before args s = true
def lw_Q (_ : Array Value) (s : State) (o : Outcome) (t : State) : Prop := o = .returned (some (.int 1)) ∧ Framed s o t [] 600000 7302250
def lw_Z (below : List Frame) (a : Array Value) (s : State) : State → Prop := fun t => ∃ o, t.status = .running ∧ Ended t below o ∧ lw_Q a s o t
/-- the law's own end, with 1 on the stack, nothing written that was there before, its room as the claim has it -/
theorem lw_ret {p : Program} {l : Launch} {e : Env} {s : State} {m : MethodId} {below : List Frame} {meth : Method} {c : Code} {b : Nat} (hx : p.tables.exec = Jvm.exec) (hb : c.code = code) (hr : meth.sig.returnType = ret) (hlocks : meth.locks = false) {pc : Nat} {H : Heap} {ls : Array Slot} (hdg : decode code pc = .ok (.ireturn, 1)) : W p l e room_1 s m #[Value.ref b] below meth c H [] 600000 7302250 (lw_Z below #[Value.ref b] s) (F0 m pc ls [.int 1]) := by
  intro T hT X
  obtain ⟨fs, hret, hrun, hended, hW, hframe⟩ := X.leave (v := some (.int 1)) (hlocks := hlocks) (fun h => by rw [hr] at h; cases h)
  have hmeth' : T.vm.method? m = some meth := X.method'
  refine ⟨T.setFrames fs, ?_, .returned (some (.int 1)), hrun, hended, rfl, ⟨_, rfl⟩, hW, hframe⟩
  jvm_step X.here [X.here.top, hx, hb, hdg, hmeth', hr, ret, narrow_b1]
  (try refine ⟨rfl, ?_⟩); (try refine ⟨rfl, ?_⟩)
  first | (intro acts; rw [hret _ acts rfl rfl rfl]) | rw [hret _ _ rfl rfl rfl]
  exact Steps.refl _
/-- what holds at the law's entry: the machine, the code, the tables' words (any of lw_tbl by 'hts w (by decide +kernel)'), the script of L ints xs at the cell b, what the Statement gives of the start (any of its parts by flat_of_before) -/
def lw_At (p : Program) (s : State) (m : MethodId) (meth : Method) (c : Code) (b L : Nat) (xs : Nat → Int32) : Prop :=
  p.tables.exec = Jvm.exec ∧ c.code = code ∧ meth.sig.returnType = ret ∧ c.maxLocals = 4 ∧ s.vm.findClass R_law = some m.cls ∧ (∀ w ∈ lw_tbl, w.before #[Value.ref b] s = true) ∧ va_X b L xs s s.heap ∧ b < s.heap.size ∧ meth.locks = false ∧ (Jvm.Cond.and given_1 narrow_1).before #[Value.ref b] s = true

/-- the tables' classes, at the law's start -/
theorem mm_world {s : State} {args : Array Value} (hts : ∀ w ∈ lw_tbl, w.before args s = true) : ∃ D : va_G, mm_WF D s := by
  have ht2 : ∀ w ∈ mm_Ws, w.before args s = true := fun w hw => hts w (List.mem_filter.mp hw).1
  obtain ⟨c0, i0, hk0⟩ := u_known (C := RX0) (T := TX0) (N := 7) (n := 7) ht2 (mm_lay_ok 0 (by decide)) (hts (.instantiable RX0 7) (by decide +kernel))
  obtain ⟨c1, i1, hk1⟩ := u_known (C := RX1) (T := TX1) (N := 3) (n := 3) ht2 (mm_lay_ok 1 (by decide)) (hts (.instantiable RX1 3) (by decide +kernel))
  obtain ⟨c2, i2, hk2⟩ := u_known (C := RX2) (T := TX2) (N := 4) (n := 4) ht2 (mm_lay_ok 2 (by decide)) (hts (.instantiable RX2 4) (by decide +kernel))
  obtain ⟨c3, i3, hk3⟩ := u_known (C := RX3) (T := TX3) (N := 17) (n := 17) ht2 (mm_lay_ok 3 (by decide)) (hts (.instantiable RX3 17) (by decide +kernel))
  obtain ⟨c4, i4, hk4⟩ := u_known (C := RX4) (T := TX4) (N := 31) (n := 31) ht2 (mm_lay_ok 4 (by decide)) (hts (.instantiable RX4 31) (by decide +kernel))
  obtain ⟨c5, k5, m5, f5, g5, e5⟩ := Cond.arrayClass_spec (hts (.arrayClass .int) (by decide +kernel))
  obtain ⟨c6, k6, m6, f6, g6, e6⟩ := Cond.arrayClass_spec (hts (.arrayClass .long) (by decide +kernel))
  have a7 := hts (.arrayOver (.object RX0)) (by decide +kernel)
  have a8 := hts (.arrayOver (.object RX1)) (by decide +kernel)
  have a9 := hts (.arrayOver (.array .int)) (by decide +kernel)
  obtain ⟨m7, c7, k7, p7, -, g7, e7, f7⟩ := Cond.arrayOver_spec a7
  obtain ⟨m8, c8, k8, p8, -, g8, e8, f8⟩ := Cond.arrayOver_spec a8
  obtain ⟨m9, c9, k9, p9, -, g9, e9, f9⟩ := arrayOverA_spec a9
  have h95 : m9 = c5 := Option.some.inj (p9.symm.trans f5)
  subst h95
  refine ⟨(fun k => match k with | 0 => c0 | 1 => c1 | 2 => c2 | 3 => c3 | 4 => c4 | 5 => m9 | 6 => c6 | 7 => c7 | 8 => c8 | _ => c9, fun k => match k with | 0 => i0 | 1 => i1 | 2 => i2 | 3 => i3 | _ => i4), ⟨?_, ?_⟩, va_AO.of a7, va_AO.of a8, ⟨⟨k9, g9, e9⟩, k5, m5, g5, e5⟩, ?_⟩
  · intro k q hq
    match k, hq with
    | 0, hq => cases hq; exact hk0
    | 1, hq => cases hq; exact hk1
    | 2, hq => cases hq; exact hk2
    | 3, hq => cases hq; exact hk3
    | 4, hq => cases hq; exact hk4
    | k + 5, hq => simp [vwCl] at hq
  · intro k q hq
    match k, hq with
    | 0, hq => cases hq; exact ⟨fun n z => ⟨(fun k h => by cases h), k5, g5, m5, e5⟩, f5⟩
    | 1, hq => cases hq; exact ⟨fun n z => ⟨(fun k h => by cases h), k6, g6, m6, e6⟩, f6⟩
    | 2, hq => cases hq; exact ⟨fun n z => ⟨(fun k h => by cases h), k7, g7, m7, e7⟩, k7, m7, g7, e7, p7, f7⟩
    | 3, hq => cases hq; exact ⟨fun n z => ⟨(fun k h => by cases h), k8, g8, m8, e8⟩, k8, m8, g8, e8, p8, f8⟩
    | 4, hq => cases hq; exact ⟨fun n z => ⟨(fun k h => by cases h), k9, g9, m9, e9⟩, f9⟩
    | k + 5, hq => simp [mm_tys] at hq
  · intro e he
    simp only [mm_nestL, List.mem_cons, List.not_mem_nil, or_false] at he
    rcases he with rfl | rfl
    · exact va_Nw.of rfl (hts (.methodLinkNest RX3 21 yX2_init RX3) (by decide +kernel))
    · exact va_Nw.of rfl (hts (.methodLinkNest RX3 40 yX1_init RX3) (by decide +kernel))
def mm_h0 : mm_H := (1, 0, fun _ => none)
/-- what is left: the law's run of the mini-machine ends with 1, within the room -/
def mm_Law : Prop := ∀ xs : List Int32, xs.length ≤ 2048 → mW (some xs) 2048 mL_law 0 [(0, .ref 0)] [] mm_h0 (fun r h => r = some (.int 1) ∧ h.1 ≤ 600001 ∧ h.2.1 ≤ 7302250)
theorem mm_start (hpure : mm_Law) {p : Program} {e : Env} {s : State} {m : MethodId} {below : List Frame} {meth : Method} {c : Code} (l : Launch) {b L : Nat} {xs : Nat → Int32} (hL : L ≤ 2048) (C0 : lw_At p s m meth c b L xs) : W p l e room_1 s m #[Value.ref b] below meth c s.heap [] 0 0 (lw_Z below #[Value.ref b] s) (entryFrame m ([Value.ref b] : List Value).toArray 4) := by
  obtain ⟨hx, hb, hr, hml, hown, hts, hX, hbl, hlocks, hgv⟩ := C0
  obtain ⟨D, hWF⟩ := mm_world hts
  obtain ⟨n, r, h', hrun, rfl, hc, hs⟩ := hpure ((List.range L).map xs) (by rw [List.length_map, List.length_range]; exact hL)
  have hX2 : va_X b ((List.range L).map xs).length (fun j => ((List.range L).map xs).getD j 0) s s.heap := by
    obtain ⟨scr, g1, g2, g3, g4, g5⟩ := hX
    refine ⟨scr, g1, g2, g3, by rw [List.length_map, List.length_range]; exact g4, fun j hj => ?_⟩
    rw [List.length_map, List.length_range] at hj
    rw [g5 j hj]
    simp [List.getD, hj]
  have C : mm_Ctx p s m #[Value.ref b] meth c D (b, s.heap.size) mL_law := ⟨hx, hb, hml, hown, fun w hw => hts w (List.mem_filter.mp hw).1, hWF, fun h => absurd h (by decide), hbl, Nat.le_refl _⟩
  have hl := lv_entry ([.ref b]) (n := 4) (Nat.le_of_ble_eq_true rfl)
  rw [lg_entry_eq]
  refine mm_sim l D (b, s.heap.size) n p e room_1 s m #[Value.ref b] below meth c (lw_Z below #[Value.ref b] s) mL_law (some ((List.range L).map xs)) 2048 0 [(0, .ref 0)] [] mm_h0 h' (some (.int 1)) 0 0 C (fun ys hys => ?_) ⟨by show 2048 ≤ 2048; omega, by show 40 * 2048 ≤ 84000; omega⟩ hrun ⟨by show 0 + (h'.1 - 1) ≤ 600000; omega, by show 0 + (h'.2.1 - 0) ≤ 7302250; omega⟩ (fun pcr H' locs' lsA hR hP hS => ?_) s.heap [] _ ⟨Nat.le_refl _, rfl, fun a c h => by cases h⟩ va_S.rf hl
  · cases hys
    exact hX2
  · have hd : decode code pcr = .ok (.ireturn, 1) := by
      rcases hR with ⟨v, -, hd, -⟩ | ⟨v, h9, -⟩ | ⟨h9, -⟩
      · exact hd
      · cases h9
      · cases h9
    refine va_forget (fun q hq => hS.2.2 q hq) ?_
    refine W.widen (k := 600000) (n := 7302250) (by show 0 + (h'.1 - 1) ≤ 600000; omega) (by show 0 + (h'.2.1 - 0) ≤ 7302250; omega) ?_
    exact lw_ret hx hb hr hlocks hd
