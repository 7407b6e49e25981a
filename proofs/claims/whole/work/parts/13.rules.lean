/-! WALKING THE MINI-MACHINE: a rule an instruction -/
theorem mm_run_up : ∀ {n : Nat} {sc : Option (List Int32)} {F pc : Nat} {M : mm_T} {ls : mm_L} {st : List Value} {h : mm_H} {q : Option Value × mm_H} (k : Nat), mm_run n sc F M pc ls st h = some q → mm_run (n + k) sc F M pc ls st h = some q := by
  intro n
  induction n with
  | zero => intro sc F pc M ls st h q k hx; cases hx
  | succ n ih =>
    intro sc F pc M ls st h q k hx
    rw [show n + 1 + k = (n + k) + 1 by omega]
    unfold mm_run at hx ⊢
    cases hat : mm_at M pc with
    | none => rw [hat] at hx; cases hx
    | some ins =>
      rw [hat] at hx
      dsimp only at hx ⊢
      cases hq : mm_x sc F M ins pc ls st h with
      | none => rw [hq] at hx; cases hx
      | some w =>
        rw [hq] at hx
        match w, hx with
        | .inl (pc', ls', st', h'), hx => exact ih k hx
        | .inr (.inl (t, as, rest)), hx =>
          dsimp only at hx ⊢
          cases F with
          | zero => cases hx
          | succ F' =>
            dsimp only at hx ⊢
            cases hc : mm_run n none F' t 0 (lv_args 0 as) [] h with
            | none => rw [hc] at hx; cases hx
            | some w =>
              rw [hc] at hx
              rw [ih k hc]
              exact ih k hx
        | .inr (.inr r), hx => exact hx
theorem mm_run_le {n n' : Nat} {sc : Option (List Int32)} {F pc : Nat} {M : mm_T} {ls : mm_L} {st : List Value} {h : mm_H} {q : Option Value × mm_H} (hn : n ≤ n') (hx : mm_run n sc F M pc ls st h = some q) : mm_run n' sc F M pc ls st h = some q := by
  have := mm_run_up (n' - n) hx
  rwa [show n + (n' - n) = n' by omega] at this
section MW
variable {sc : Option (List Int32)} {F pc : Nat} {M : mm_T} {ls : mm_L} {st r : List Value} {h : mm_H} {P : Option Value → mm_H → Prop}
theorem mW.imp {P' : Option Value → mm_H → Prop} (hW : mW sc F M pc ls st h P) (hi : ∀ r h', P r h' → P' r h') : mW sc F M pc ls st h P' := by
  obtain ⟨n, r, h', a, b⟩ := hW
  exact ⟨n, r, h', a, hi r h' b⟩
theorem mW.step {ins : Instr} {pc' : Nat} {ls' : mm_L} {st' : List Value} {h' : mm_H} (ha : mm_at M pc = some ins) (hx : mm_x sc F M ins pc ls st h = some (.inl (pc', ls', st', h'))) (k : mW sc F M pc' ls' st' h' P) : mW sc F M pc ls st h P := by
  obtain ⟨n, r, h2, a, b⟩ := k
  refine ⟨n + 1, r, h2, ?_, b⟩
  unfold mm_run
  rw [ha]
  dsimp only
  rw [hx]
  exact a
theorem mW.call {ins : Instr} {t : mm_T} {as rest : List Value} {P1 : Option Value → mm_H → Prop} (ha : mm_at M pc = some ins) (hx : mm_x sc (F + 1) M ins pc ls st h = some (.inr (.inl (t, as, rest)))) (hc : mW none F t 0 (lv_args 0 as) [] h P1) (k : ∀ r h', P1 r h' → mW sc (F + 1) M (pc + 3) ls (r.toList ++ rest) h' P) : mW sc (F + 1) M pc ls st h P := by
  obtain ⟨n1, r1, h1, a1, b1⟩ := hc
  obtain ⟨n2, r2, h2, a2, b2⟩ := k r1 h1 b1
  refine ⟨n1 + n2 + 1, r2, h2, ?_, b2⟩
  unfold mm_run
  rw [ha]
  dsimp only
  rw [hx]
  dsimp only
  rw [mm_run_le (Nat.le_add_right n1 n2) a1]
  exact mm_run_le (Nat.le_add_left n2 n1) a2
theorem mW.ret {ins : Instr} {rv : Option Value} (ha : mm_at M pc = some ins) (hx : mm_x sc F M ins pc ls st h = some (.inr (.inr rv))) (k : P rv h) : mW sc F M pc ls st h P := by
  refine ⟨1, rv, h, ?_, k⟩
  unfold mm_run
  rw [ha]
  dsimp only
  rw [hx]
theorem w_iconst {n : Int} {v : Int32} {q : Nat} (ha : mm_at M pc = some (.iconst n)) (hv : Int32.ofInt n = v) (hq : pc + 1 = q) (k : mW sc F M q ls (.int v :: st) h P) : mW sc F M pc ls st h P := mW.step ha rfl (by subst hv; subst hq; exact k)
theorem w_bipush {n : Int} {v : Int32} {q : Nat} (ha : mm_at M pc = some (.bipush n)) (hv : (Int8.ofInt n).toInt32 = v) (hq : pc + 2 = q) (k : mW sc F M q ls (.int v :: st) h P) : mW sc F M pc ls st h P := mW.step ha rfl (by subst hv; subst hq; exact k)
theorem w_sipush {n : Int} {v : Int32} {q : Nat} (ha : mm_at M pc = some (.sipush n)) (hv : (Int16.ofInt n).toInt32 = v) (hq : pc + 3 = q) (k : mW sc F M q ls (.int v :: st) h P) : mW sc F M pc ls st h P := mW.step ha rfl (by subst hv; subst hq; exact k)
theorem w_lconst {n : Fin 2} {v : Int64} {q : Nat} (ha : mm_at M pc = some (.lconst n)) (hv : Int64.ofNat (n : Nat) = v) (hq : pc + 1 = q) (k : mW sc F M q ls (.long v :: st) h P) : mW sc F M pc ls st h P := mW.step ha rfl (by subst hv; subst hq; exact k)
theorem w_null {q : Nat} (ha : mm_at M pc = some .aconst_null) (hq : pc + 1 = q) (k : mW sc F M q ls (.null :: st) h P) : mW sc F M pc ls st h P := mW.step ha rfl (by subst hq; exact k)
theorem w_ldc {i : Nat} {v : Int64} {q : Nat} (ha : mm_at M pc = some (.ldc2_w i)) (hv : mm_ldc M.1 i = some v) (hq : pc + 3 = q) (k : mW sc F M q ls (.long v :: st) h P) : mW sc F M pc ls st h P := mW.step ha (by simp only [mm_x, hv]; rfl) (by subst hq; exact k)
theorem w_iload_n {i : Fin 4} {v : Int32} {q : Nat} (ha : mm_at M pc = some (.iload_n i)) (hv : mm_lk ls i = some (.int v)) (hq : pc + 1 = q) (k : mW sc F M q ls (.int v :: st) h P) : mW sc F M pc ls st h P := mW.step ha (by simp only [mm_x, mm_ld, hv]; rfl) (by subst hq; exact k)
theorem w_iload {i : Nat} {v : Int32} {q : Nat} (ha : mm_at M pc = some (.iload i)) (hv : mm_lk ls i = some (.int v)) (hq : pc + 2 = q) (k : mW sc F M q ls (.int v :: st) h P) : mW sc F M pc ls st h P := mW.step ha (by simp only [mm_x, mm_ld, hv]; rfl) (by subst hq; exact k)
theorem w_lload_n {i : Fin 4} {v : Int64} {q : Nat} (ha : mm_at M pc = some (.lload_n i)) (hv : mm_lk ls i = some (.long v)) (hq : pc + 1 = q) (k : mW sc F M q ls (.long v :: st) h P) : mW sc F M pc ls st h P := mW.step ha (by simp only [mm_x, mm_ld, hv]; rfl) (by subst hq; exact k)
theorem w_lload {i : Nat} {v : Int64} {q : Nat} (ha : mm_at M pc = some (.lload i)) (hv : mm_lk ls i = some (.long v)) (hq : pc + 2 = q) (k : mW sc F M q ls (.long v :: st) h P) : mW sc F M pc ls st h P := mW.step ha (by simp only [mm_x, mm_ld, hv]; rfl) (by subst hq; exact k)
theorem w_aload_n {i : Fin 4} {v : Nat} {q : Nat} (ha : mm_at M pc = some (.aload_n i)) (hv : mm_lk ls i = some (.ref v)) (hq : pc + 1 = q) (k : mW sc F M q ls (.ref v :: st) h P) : mW sc F M pc ls st h P := mW.step ha (by simp only [mm_x, mm_ld, hv]; rfl) (by subst hq; exact k)
theorem w_aload {i : Nat} {v : Nat} {q : Nat} (ha : mm_at M pc = some (.aload i)) (hv : mm_lk ls i = some (.ref v)) (hq : pc + 2 = q) (k : mW sc F M q ls (.ref v :: st) h P) : mW sc F M pc ls st h P := mW.step ha (by simp only [mm_x, mm_ld, hv]; rfl) (by subst hq; exact k)
theorem w_aload_nQ {i : Fin 4} {v : Option Nat} {q : Nat} (ha : mm_at M pc = some (.aload_n i)) (hv : mm_lk ls i = some (va_rf v)) (hq : pc + 1 = q) (k : mW sc F M q ls (va_rf v :: st) h P) : mW sc F M pc ls st h P := by
  subst hq
  cases v with
  | none => exact mW.step (st' := .null :: st) ha (by simp only [va_rf] at hv; simp only [mm_x, mm_ld, hv]) k
  | some a => exact mW.step (st' := .ref a :: st) ha (by simp only [va_rf] at hv; simp only [mm_x, mm_ld, hv]) k
theorem w_aloadQ {i : Nat} {v : Option Nat} {q : Nat} (ha : mm_at M pc = some (.aload i)) (hv : mm_lk ls i = some (va_rf v)) (hq : pc + 2 = q) (k : mW sc F M q ls (va_rf v :: st) h P) : mW sc F M pc ls st h P := by
  subst hq
  cases v with
  | none => exact mW.step (st' := .null :: st) ha (by simp only [va_rf] at hv; simp only [mm_x, mm_ld, hv]) k
  | some a => exact mW.step (st' := .ref a :: st) ha (by simp only [va_rf] at hv; simp only [mm_x, mm_ld, hv]) k
theorem w_istore_n {i : Fin 4} {v : Int32} {q : Nat} {ls' : mm_L} (ha : mm_at M pc = some (.istore_n i)) (hi : (i : Nat) < M.2.2.2.1) (hl : mm_st1 ls i (.int v) = ls') (hq : pc + 1 = q) (k : mW sc F M q ls' r h P) : mW sc F M pc ls (.int v :: r) h P := mW.step ha (by simp only [mm_x, mm_sto]; rw [if_pos hi]) (by subst hq; subst hl; exact k)
theorem w_istore {i : Nat} {v : Int32} {q : Nat} {ls' : mm_L} (ha : mm_at M pc = some (.istore i)) (hi : i < M.2.2.2.1) (hl : mm_st1 ls i (.int v) = ls') (hq : pc + 2 = q) (k : mW sc F M q ls' r h P) : mW sc F M pc ls (.int v :: r) h P := mW.step ha (by simp only [mm_x, mm_sto]; rw [if_pos hi]) (by subst hq; subst hl; exact k)
theorem w_lstore_n {i : Fin 4} {v : Int64} {q : Nat} {ls' : mm_L} (ha : mm_at M pc = some (.lstore_n i)) (hi : (i : Nat) + 1 < M.2.2.2.1) (hl : mm_st2 ls i (.long v) = ls') (hq : pc + 1 = q) (k : mW sc F M q ls' r h P) : mW sc F M pc ls (.long v :: r) h P := mW.step ha (by simp only [mm_x, mm_sto]; rw [if_pos hi]) (by subst hq; subst hl; exact k)
theorem w_lstore {i : Nat} {v : Int64} {q : Nat} {ls' : mm_L} (ha : mm_at M pc = some (.lstore i)) (hi : i + 1 < M.2.2.2.1) (hl : mm_st2 ls i (.long v) = ls') (hq : pc + 2 = q) (k : mW sc F M q ls' r h P) : mW sc F M pc ls (.long v :: r) h P := mW.step ha (by simp only [mm_x, mm_sto]; rw [if_pos hi]) (by subst hq; subst hl; exact k)
theorem w_astore_n {i : Fin 4} {v : Nat} {q : Nat} {ls' : mm_L} (ha : mm_at M pc = some (.astore_n i)) (hi : (i : Nat) < M.2.2.2.1) (hl : mm_st1 ls i (.ref v) = ls') (hq : pc + 1 = q) (k : mW sc F M q ls' r h P) : mW sc F M pc ls (.ref v :: r) h P := mW.step ha (by simp only [mm_x, mm_sto]; rw [if_pos hi]) (by subst hq; subst hl; exact k)
theorem w_astore {i : Nat} {v : Nat} {q : Nat} {ls' : mm_L} (ha : mm_at M pc = some (.astore i)) (hi : i < M.2.2.2.1) (hl : mm_st1 ls i (.ref v) = ls') (hq : pc + 2 = q) (k : mW sc F M q ls' r h P) : mW sc F M pc ls (.ref v :: r) h P := mW.step ha (by simp only [mm_x, mm_sto]; rw [if_pos hi]) (by subst hq; subst hl; exact k)
theorem w_astoreQ {i : Nat} {v : Option Nat} {q : Nat} {ls' : mm_L} (ha : mm_at M pc = some (.astore i)) (hi : i < M.2.2.2.1) (hl : mm_st1 ls i (va_rf v) = ls') (hq : pc + 2 = q) (k : mW sc F M q ls' r h P) : mW sc F M pc ls (va_rf v :: r) h P := by
  subst hl; subst hq
  cases v
  · exact mW.step (st' := r) ha (by simp only [mm_x, mm_sto, va_rf]; rw [if_pos hi]) k
  · exact mW.step (st' := r) ha (by simp only [mm_x, mm_sto, va_rf]; rw [if_pos hi]) k
theorem w_iinc {i : Nat} {n : Int} {x v : Int32} {q : Nat} {ls' : mm_L} (ha : mm_at M pc = some (.iinc i n)) (hx : mm_lk ls i = some (.int x)) (hv : x + Int32.ofInt n = v) (hi : i < M.2.2.2.1) (hl : mm_st1 ls i (.int v) = ls') (hq : pc + 3 = q) (k : mW sc F M q ls' st h P) : mW sc F M pc ls st h P := mW.step ha (by simp only [mm_x, hx]; rw [if_pos hi]) (by subst hq; subst hv; subst hl; exact k)
theorem w_iadd {x y : Int32} {q : Nat} (ha : mm_at M pc = some .iadd) (hq : pc + 1 = q) (k : mW sc F M q ls (.int (x + y) :: r) h P) : mW sc F M pc ls (.int y :: .int x :: r) h P := mW.step ha rfl (by subst hq; exact k)
theorem w_isub {x y : Int32} {q : Nat} (ha : mm_at M pc = some .isub) (hq : pc + 1 = q) (k : mW sc F M q ls (.int (x - y) :: r) h P) : mW sc F M pc ls (.int y :: .int x :: r) h P := mW.step ha rfl (by subst hq; exact k)
theorem w_imul {x y : Int32} {q : Nat} (ha : mm_at M pc = some .imul) (hq : pc + 1 = q) (k : mW sc F M q ls (.int (x * y) :: r) h P) : mW sc F M pc ls (.int y :: .int x :: r) h P := mW.step ha rfl (by subst hq; exact k)
theorem w_iand {x y : Int32} {q : Nat} (ha : mm_at M pc = some .iand) (hq : pc + 1 = q) (k : mW sc F M q ls (.int (x &&& y) :: r) h P) : mW sc F M pc ls (.int y :: .int x :: r) h P := mW.step ha rfl (by subst hq; exact k)
theorem w_irem {x y : Int32} {q : Nat} (ha : mm_at M pc = some .irem) (hy : ¬ y = 0) (hq : pc + 1 = q) (k : mW sc F M q ls (.int (x - x / y * y) :: r) h P) : mW sc F M pc ls (.int y :: .int x :: r) h P := mW.step ha (by simp only [mm_x, mm_bi]; rw [if_neg hy]) (by subst hq; exact k)
theorem w_ladd {x y : Int64} {q : Nat} (ha : mm_at M pc = some .ladd) (hq : pc + 1 = q) (k : mW sc F M q ls (.long (x + y) :: r) h P) : mW sc F M pc ls (.long y :: .long x :: r) h P := mW.step ha rfl (by subst hq; exact k)
theorem w_land {x y : Int64} {q : Nat} (ha : mm_at M pc = some .land) (hq : pc + 1 = q) (k : mW sc F M q ls (.long (x &&& y) :: r) h P) : mW sc F M pc ls (.long y :: .long x :: r) h P := mW.step ha rfl (by subst hq; exact k)
theorem w_lor {x y : Int64} {q : Nat} (ha : mm_at M pc = some .lor) (hq : pc + 1 = q) (k : mW sc F M q ls (.long (x ||| y) :: r) h P) : mW sc F M pc ls (.long y :: .long x :: r) h P := mW.step ha rfl (by subst hq; exact k)
theorem w_ldiv {x y : Int64} {q : Nat} (ha : mm_at M pc = some .ldiv) (hy : ¬ y = 0) (hq : pc + 1 = q) (k : mW sc F M q ls (.long (x / y) :: r) h P) : mW sc F M pc ls (.long y :: .long x :: r) h P := mW.step ha (by simp only [mm_x, mm_bl]; rw [if_neg hy]) (by subst hq; exact k)
theorem w_lshl {x : Int64} {y : Int32} {q : Nat} (ha : mm_at M pc = some .lshl) (hq : pc + 1 = q) (k : mW sc F M q ls (.long (x <<< (y.toInt64 &&& 63)) :: r) h P) : mW sc F M pc ls (.int y :: .long x :: r) h P := mW.step ha rfl (by subst hq; exact k)
theorem w_lcmp {x y : Int64} {q : Nat} (ha : mm_at M pc = some .lcmp) (hq : pc + 1 = q) (k : mW sc F M q ls (.int (lg_cmp x y) :: r) h P) : mW sc F M pc ls (.long y :: .long x :: r) h P := mW.step ha rfl (by subst hq; exact k)
theorem w_i2l {x : Int32} {q : Nat} (ha : mm_at M pc = some .i2l) (hq : pc + 1 = q) (k : mW sc F M q ls (.long x.toInt64 :: r) h P) : mW sc F M pc ls (.int x :: r) h P := mW.step ha rfl (by subst hq; exact k)
theorem w_l2i {x : Int64} {q : Nat} (ha : mm_at M pc = some .l2i) (hq : pc + 1 = q) (k : mW sc F M q ls (.int x.toInt32 :: r) h P) : mW sc F M pc ls (.long x :: r) h P := mW.step ha rfl (by subst hq; exact k)
theorem w_dup {v : Value} {q : Nat} (ha : mm_at M pc = some .dup) (hv : v.category = 1) (hq : pc + 1 = q) (k : mW sc F M q ls (v :: v :: r) h P) : mW sc F M pc ls (v :: r) h P := mW.step ha (by simp only [mm_x]; rw [if_pos hv]) (by subst hq; exact k)
theorem w_pop {v : Value} {q : Nat} (ha : mm_at M pc = some .pop) (hv : v.category = 1) (hq : pc + 1 = q) (k : mW sc F M q ls r h P) : mW sc F M pc ls (v :: r) h P := mW.step ha (by simp only [mm_x]; rw [if_pos hv]) (by subst hq; exact k)
theorem w_dup_x1 {v u : Value} {q : Nat} (ha : mm_at M pc = some .dup_x1) (hv : v.category = 1 ∧ u.category = 1) (hq : pc + 1 = q) (k : mW sc F M q ls (v :: u :: v :: r) h P) : mW sc F M pc ls (v :: u :: r) h P := mW.step ha (by simp only [mm_x]; rw [if_pos hv]) (by subst hq; exact k)
theorem w_dup2 {v u : Value} {q : Nat} (ha : mm_at M pc = some .dup2) (hv : v.category = 1 ∧ u.category = 1) (hq : pc + 1 = q) (k : mW sc F M q ls (v :: u :: v :: u :: r) h P) : mW sc F M pc ls (v :: u :: r) h P := mW.step ha (by simp only [mm_x]; rw [if_pos hv]) (by subst hq; exact k)
theorem mm_go_at {off : Int} {t : Nat} (ht : (pc : Int) + off = (t : Int)) : mm_go pc off ls st h = some (.inl (t, ls, st, h)) := by
  unfold mm_go
  rw [if_pos (by omega), ht]
  rfl
theorem w_goto {off : Int} {t : Nat} (ha : mm_at M pc = some (.goto off)) (ht : (pc : Int) + off = (t : Int)) (k : mW sc F M t ls st h P) : mW sc F M pc ls st h P := mW.step ha (mm_go_at ht) k
theorem w_if {cd : Jvm.ClassFile.Cond} {off : Int} {x : Int32} {t q : Nat} (ha : mm_at M pc = some (.ifCond cd off)) (ht : (pc : Int) + off = (t : Int)) (hq : pc + 3 = q) (kt : mm_cmp cd x 0 = true → mW sc F M t ls r h P) (kf : mm_cmp cd x 0 = false → mW sc F M q ls r h P) : mW sc F M pc ls (.int x :: r) h P := by
  subst hq
  by_cases hc : mm_cmp cd x 0 = true
  · exact mW.step ha (by simp only [mm_x]; rw [if_pos hc]; exact mm_go_at ht) (kt hc)
  · exact mW.step ha (by simp only [mm_x]; rw [if_neg hc]) (kf (by simpa using hc))
theorem w_icmp {cd : Jvm.ClassFile.Cond} {off : Int} {x y : Int32} {t q : Nat} (ha : mm_at M pc = some (.if_icmp cd off)) (ht : (pc : Int) + off = (t : Int)) (hq : pc + 3 = q) (kt : mm_cmp cd x y = true → mW sc F M t ls r h P) (kf : mm_cmp cd x y = false → mW sc F M q ls r h P) : mW sc F M pc ls (.int y :: .int x :: r) h P := by
  subst hq
  by_cases hc : mm_cmp cd x y = true
  · exact mW.step ha (by simp only [mm_x]; rw [if_pos hc]; exact mm_go_at ht) (kt hc)
  · exact mW.step ha (by simp only [mm_x]; rw [if_neg hc]) (kf (by simpa using hc))
theorem w_nonnull {off : Int} {v : Option Nat} {t q : Nat} (ha : mm_at M pc = some (.ifnonnull off)) (ht : (pc : Int) + off = (t : Int)) (hq : pc + 3 = q) (kt : ∀ a, v = some a → mW sc F M t ls r h P) (kf : v = none → mW sc F M q ls r h P) : mW sc F M pc ls (va_rf v :: r) h P := by
  subst hq
  cases v with
  | none => exact mW.step ha rfl (kf rfl)
  | some a => exact mW.step ha (mm_go_at ht) (kt a rfl)
theorem w_table {d lo hi : Int} {offs : Array Int} {x : Int32} {o : Int} {t : Nat} (ha : mm_at M pc = some (.tableswitch d lo hi offs)) (h1 : lo ≤ x.toInt) (h2 : x.toInt ≤ hi) (ho : offs[(x.toInt - lo).toNat]? = some o) (ht : (pc : Int) + o = (t : Int)) (k : mW sc F M t ls r h P) : mW sc F M pc ls (.int x :: r) h P := mW.step ha (by simp only [mm_x]; rw [if_neg (by omega), ho]; exact mm_go_at ht) k
theorem w_tableD {d lo hi : Int} {offs : Array Int} {x : Int32} {t : Nat} (ha : mm_at M pc = some (.tableswitch d lo hi offs)) (h1 : x.toInt < lo ∨ hi < x.toInt) (ht : (pc : Int) + d = (t : Int)) (k : mW sc F M t ls r h P) : mW sc F M pc ls (.int x :: r) h P := mW.step ha (by simp only [mm_x]; rw [if_pos h1]; exact mm_go_at ht) k
theorem w_get {i ci j a : Nat} {fs : List Value} {v : Value} {q : Nat} (ha : mm_at M pc = some (.getfield i)) (hf : mm_fld M.1 i = some (ci, j)) (hc : h.2.2 a = some (ci, fs)) (hv : fs[j]? = some v) (hq : pc + 3 = q) (k : mW sc F M q ls (v :: r) h P) : mW sc F M pc ls (.ref a :: r) h P := mW.step ha (by simp only [mm_x, hf, hc, hv]; rfl) (by subst hq; exact k)
theorem w_put {i ci j a : Nat} {fs fs' : List Value} {v : Value} {q : Nat} (ha : mm_at M pc = some (.putfield i)) (hf : mm_fld M.1 i = some (ci, j)) (hc : h.2.2 a = some (ci, fs)) (hk : j < fs.length) (hn : narrow (mm_ty ci j) v = v) (ht : fits (mm_ty ci j) v = true) (hfin : (mm_F ci j).2.2.2 = false ∨ (M.2.1.name = "<init>" ∧ M.1 = ci)) (hs : fs.set j v = fs') (hq : pc + 3 = q) (k : mW sc F M q ls r (mm_up h a (ci, fs')) P) : mW sc F M pc ls (v :: .ref a :: r) h P := mW.step ha (by simp only [mm_x, hf, hc]; rw [if_pos ⟨trivial, hk, hn, ht, hfin⟩]) (by subst hq; subst hs; exact k)
theorem mm_ix_at {vs : List Value} {j : Int32} {n : Nat} {v : Value} (hj : j = nI n) (hn : n < 2 ^ 31) (hv : vs[n]? = some v) : mm_ix vs j = some v := by
  unfold mm_ix
  subst hj
  rw [if_neg (nI_pos hn), nI_clamp hn]
  exact hv
theorem w_iald {a : Nat} {vs : List Value} {j : Int32} {v : Value} {q : Nat} (ha : mm_at M pc = some .iaload) (h0 : ¬ a = 0) (hc : h.2.2 a = some (5, vs)) (hv : mm_ix vs j = some v) (hq : pc + 1 = q) (k : mW sc F M q ls (v :: r) h P) : mW sc F M pc ls (.int j :: .ref a :: r) h P := mW.step ha (by simp only [mm_x]; rw [if_neg h0, hc]; simp only [hv]; rfl) (by subst hq; exact k)
theorem w_sld {xs : List Int32} {n : Nat} {j x : Int32} {q : Nat} (ha : mm_at M pc = some .iaload) (hj : j = nI n) (hn : n < 2 ^ 31) (hv : xs[n]? = some x) (hq : pc + 1 = q) (k : mW (some xs) F M q ls (.int x :: r) h P) : mW (some xs) F M pc ls (.int j :: .ref 0 :: r) h P := mW.step ha (by subst hj; simp only [mm_x]; rw [if_pos trivial, if_neg (nI_pos hn), nI_clamp hn, hv]) (by subst hq; exact k)
theorem w_slen {xs : List Int32} {q : Nat} (ha : mm_at M pc = some .arraylength) (hq : pc + 1 = q) (k : mW (some xs) F M q ls (.int (Int32.ofNat xs.length) :: r) h P) : mW (some xs) F M pc ls (.ref 0 :: r) h P := mW.step ha rfl (by subst hq; exact k)
theorem w_lald {a : Nat} {vs : List Value} {j : Int32} {v : Value} {q : Nat} (ha : mm_at M pc = some .laload) (hc : h.2.2 a = some (6, vs)) (hv : mm_ix vs j = some v) (hq : pc + 1 = q) (k : mW sc F M q ls (v :: r) h P) : mW sc F M pc ls (.int j :: .ref a :: r) h P := mW.step ha (by simp only [mm_x]; rw [hc]; simp only [hv]; rfl) (by subst hq; exact k)
theorem w_aald {a ci : Nat} {vs : List Value} {j : Int32} {v : Value} {q : Nat} (ha : mm_at M pc = some .aaload) (hc : h.2.2 a = some (ci, vs)) (hci : ci = 7 ∨ ci = 8 ∨ ci = 9) (hv : mm_ix vs j = some v) (hq : pc + 1 = q) (k : mW sc F M q ls (v :: r) h P) : mW sc F M pc ls (.int j :: .ref a :: r) h P := mW.step ha (by simp only [mm_x]; rw [hc]; simp only [hv]; rw [if_pos hci]) (by subst hq; exact k)
theorem w_iast {a n : Nat} {vs vs' : List Value} {j x : Int32} {q : Nat} (ha : mm_at M pc = some .iastore) (hc : h.2.2 a = some (5, vs)) (hj : j = nI n) (hn : n < vs.length) (hb : vs.length < 2 ^ 31) (hs : vs.set n (.int x) = vs') (hq : pc + 1 = q) (k : mW sc F M q ls r (mm_up h a (5, vs')) P) : mW sc F M pc ls (.int x :: .int j :: .ref a :: r) h P := by
  subst hj; subst hs; subst hq
  have h1 := nI_pos (n := n) (by omega)
  have h2 := nI_clamp (n := n) (by omega)
  exact mW.step ha (by simp only [mm_x]; rw [hc]; simp only [h2]; rw [if_pos ⟨trivial, h1, hn⟩]) k
theorem w_last {a n : Nat} {vs vs' : List Value} {j : Int32} {x : Int64} {q : Nat} (ha : mm_at M pc = some .lastore) (hc : h.2.2 a = some (6, vs)) (hj : j = nI n) (hn : n < vs.length) (hb : vs.length < 2 ^ 31) (hs : vs.set n (.long x) = vs') (hq : pc + 1 = q) (k : mW sc F M q ls r (mm_up h a (6, vs')) P) : mW sc F M pc ls (.long x :: .int j :: .ref a :: r) h P := by
  subst hj; subst hs; subst hq
  have h1 := nI_pos (n := n) (by omega)
  have h2 := nI_clamp (n := n) (by omega)
  exact mW.step ha (by simp only [mm_x]; rw [hc]; simp only [h2]; rw [if_pos ⟨trivial, h1, hn⟩]) k
theorem w_aast {a n ci : Nat} {vs vs' : List Value} {j : Int32} {v : Value} {q : Nat} (ha : mm_at M pc = some .aastore) (hc : h.2.2 a = some (7 + ci, vs)) (hci : ci = 0 ∨ ci = 1) (hv : mm_okv h ci v = true) (hj : j = nI n) (hn : n < vs.length) (hb : vs.length < 2 ^ 31) (hs : vs.set n v = vs') (hq : pc + 1 = q) (k : mW sc F M q ls r (mm_up h a (7 + ci, vs')) P) : mW sc F M pc ls (v :: .int j :: .ref a :: r) h P := by
  subst hj; subst hs; subst hq
  have h1 := nI_pos (n := n) (by omega)
  have h2 := nI_clamp (n := n) (by omega)
  exact mW.step ha (by simp only [mm_x]; rw [hc]; simp only [h2]; rw [if_pos ⟨by rcases hci with rfl | rfl <;> simp [hv], h1, hn⟩]) k
theorem w_new {i ci : Nat} {q : Nat} (ha : mm_at M pc = some (.new i)) (hk : mm_cls M.1 i = some ci) (h5 : ¬ 4 < ci) (hq : pc + 3 = q) (k : mW sc F M q ls (.ref h.1 :: st) (mm_new h (ci, mm_df ci)) P) : mW sc F M pc ls st h P := mW.step ha (by simp only [mm_x, hk]; rw [if_neg h5]) (by subst hq; exact k)
theorem w_maxI {i : Nat} {x y : Int32} {q : Nat} (ha : mm_at M pc = some (.invokestatic i)) (hm : mm_max M.1 i = some 0) (hr : (r.map fun v => v.category).sum ≤ 8) (hq : pc + 3 = q) (k : mW sc (F + 1) M q ls (.int (if x < y then y else x) :: r) h P) : mW sc (F + 1) M pc ls (.int y :: .int x :: r) h P := mW.step ha (by simp only [mm_x, hm]; rw [if_pos ⟨by omega, hr⟩]) (by subst hq; exact k)
theorem w_maxJ {i : Nat} {x y : Int64} {q : Nat} (ha : mm_at M pc = some (.invokestatic i)) (hm : mm_max M.1 i = some 1) (hr : (r.map fun v => v.category).sum ≤ 8) (hq : pc + 3 = q) (k : mW sc (F + 1) M q ls (.long (if y < x then x else y) :: r) h P) : mW sc (F + 1) M pc ls (.long y :: .long x :: r) h P := mW.step ha (by simp only [mm_x, hm]; rw [if_pos ⟨by omega, hr⟩]) (by subst hq; exact k)
theorem w_obj {i a : Nat} {q : Nat} (ha : mm_at M pc = some (.invokespecial i)) (hm : mm_objL.contains (M.1, i) = true) (hr : (r.map fun v => v.category).sum ≤ 8) (hq : pc + 3 = q) (k : mW sc (F + 1) M q ls r h P) : mW sc (F + 1) M pc ls (.ref a :: r) h P := mW.step ha (by simp only [mm_x]; rw [if_pos hm, if_pos ⟨by omega, hr⟩]) (by subst hq; exact k)
theorem w_callS {i : Nat} {t : mm_T} {as rest : List Value} {P1 : Option Value → mm_H → Prop} (ha : mm_at M pc = some (.invokestatic i)) (hx : mm_max M.1 i = none) (hm : mm_mth M.1 i = some (0, t)) (hcl : mm_call t t.2.2.2.2.2 st = some (.inr (.inl (t, as, rest)))) (hc : mW none F t 0 (lv_args 0 as) [] h P1) (k : ∀ r h', P1 r h' → mW sc (F + 1) M (pc + 3) ls (r.toList ++ rest) h' P) : mW sc (F + 1) M pc ls st h P := mW.call ha (by simp only [mm_x, hx, hm]; exact hcl) hc k
theorem w_callV {i : Nat} {t : mm_T} {as rest : List Value} {P1 : Option Value → mm_H → Prop} (ha : mm_at M pc = some (.invokevirtual i)) (hm : mm_mth M.1 i = some (1, t)) (hth : mm_this h t.2.2.2.2.2 t.1 st = true) (hcl : mm_call t (t.2.2.2.2.2 + 1) st = some (.inr (.inl (t, as, rest)))) (hc : mW none F t 0 (lv_args 0 as) [] h P1) (k : ∀ r h', P1 r h' → mW sc (F + 1) M (pc + 3) ls (r.toList ++ rest) h' P) : mW sc (F + 1) M pc ls st h P := mW.call ha (by simp only [mm_x, hm]; rw [if_pos hth]; exact hcl) hc k
theorem w_callI {i kd : Nat} {t : mm_T} {as rest : List Value} {P1 : Option Value → mm_H → Prop} (ha : mm_at M pc = some (.invokespecial i)) (ho : mm_objL.contains (M.1, i) = false) (hm : mm_mth M.1 i = some (kd, t)) (hkd : kd = 2 ∨ kd = 3) (hth : mm_this h t.2.2.2.2.2 t.1 st = true) (hcl : mm_call t (t.2.2.2.2.2 + 1) st = some (.inr (.inl (t, as, rest)))) (hc : mW none F t 0 (lv_args 0 as) [] h P1) (k : ∀ r h', P1 r h' → mW sc (F + 1) M (pc + 3) ls (r.toList ++ rest) h' P) : mW sc (F + 1) M pc ls st h P := mW.call ha (by simp only [mm_x, hm]; rw [if_neg (by rw [ho]; decide), if_pos ⟨hkd, hth⟩]; exact hcl) hc k
theorem w_iret {v : Int32} (ha : mm_at M pc = some .ireturn) (ht : M.2.2.2.2.1 = some .int) (k : P (some (.int v)) h) : mW sc F M pc ls [.int v] h P := mW.ret ha (by simp only [mm_x]; rw [if_pos (Or.inl ht)]) k
theorem w_zret {v : Int32} (ha : mm_at M pc = some .ireturn) (ht : M.2.2.2.2.1 = some .boolean) (hv : v = 0 ∨ v = 1) (k : P (some (.int v)) h) : mW sc F M pc ls [.int v] h P := mW.ret ha (by simp only [mm_x]; rw [if_pos (Or.inr ⟨ht, hv⟩)]) k
theorem w_lret {v : Int64} (ha : mm_at M pc = some .lreturn) (ht : M.2.2.2.2.1 = some .long) (k : P (some (.long v)) h) : mW sc F M pc ls [.long v] h P := mW.ret ha (by simp only [mm_x]; rw [if_pos ht]) k
theorem w_vret (ha : mm_at M pc = some .return_) (ht : M.2.2.2.2.1 = none) (k : P none h) : mW sc F M pc ls [] h P := mW.ret ha (by simp only [mm_x]; rw [if_pos ht]) k
end MW
