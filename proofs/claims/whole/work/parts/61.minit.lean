/-- the state in which both begin, before their two hearers -/
def s00 : St := (fun _ => 0, fun _ => 0, fun _ => 0, fun _ => [], [], 0, fun _ => (0, 0, 0, 0, none, none), fun _ => 0, fun _ => none, 0, 0)
def s02 : St := p_make (p_make s00 0 0 0) 7 0 0
def z4 (q : Nat) : mm_C := match q with
  | 33 => (6, rg 8 (fun _ => .long 0))
  | 34 => (5, rg 6 (fun _ => .int 0))
  | 35 => (5, rg 72 (fun _ => .int 0))
  | 36 => (5, rg 6 (fun _ => .int 0))
  | 37 => (5, rg 40 (fun _ => .int 0))
  | 38 => (5, rg 40 (fun _ => .int 0))
  | 39 => (5, rg 40 (fun _ => .int 0))
  | 40 => (6, rg 40 (fun _ => .long 0))
  | 41 => (5, rg 40 (fun _ => .int 0))
  | 42 => (5, rg 40 (fun _ => .int 0))
  | 43 => (5, rg 40 (fun _ => .int 0))
  | 44 => (5, rg 40 (fun _ => .int 0))
  | 45 => (5, rg 40 (fun _ => .int 0))
  | 46 => (5, rg 20 (fun _ => .int 0))
  | 47 => (6, rg 20 (fun _ => .long 0))
  | 48 => (5, rg 600 (fun _ => .int 0))
  | 49 => (5, rg 600 (fun _ => .int 0))
  | 50 => (6, rg 600 (fun _ => .long 0))
  | 51 => (5, rg 600 (fun _ => .int 0))
  | 52 => (5, rg 600 (fun _ => .int 0))
  | 53 => (5, rg 7200 (fun _ => .int 0))
  | _ => (5, rg 10 (fun _ => .int 0))
def w00 : Raw := (fun _ => 0, fun _ => 0, fun _ => 0, fun _ => 0, fun _ => 0, fun _ => 0, fun _ => 0, fun _ => 0, fun _ => 0, fun _ => 0)
theorem rg_z {n : Nat} {f g : Nat → Value} (h : ∀ j, f j = g j) : rg n f = rg n g := rg_congr (fun j _ => h j)
set_option maxRecDepth 20000 in
theorem d_init {F sl : Nat} {h : mm_H} (h1 : h.1 = 33) (hc : h.2.2 32 = some (4, [.null, .null, .null, .null, .int 0, .null, .null, .null, .null, .null, .null, .null, .null, .null, .null, .null, .int 0, .int 0, .null, .null, .null, .null, .null, .null, .int 0, .int 0, .int 0, .int 0, .int 0, .long 0, .null])) (hsl : h.2.1 ≤ sl) : mW none (F + 2) mX4_init 0 [(0, .ref 32)] [] h (fun r h' => r = none ∧ (∃ X, RM s02 [] X h') ∧ h'.1 = 55 ∧ h'.2.1 ≤ sl + 20000 ∧ ∀ q, q < 32 → h'.2.2 q = h.2.2 q) := by
  have H0 : Al 32 4 33 33 [.null, .null, .null, .null, .int 0, .null, .null, .null, .null, .null, .null, .null, .null, .null, .null, .null, .int 0, .int 0, .null, .null, .null, .null, .null, .null, .int 0, .int 0, .int 0, .int 0, .int 0, .long 0, .null] z4 h sl h := ⟨h1, hc, fun q h1 h2 => by omega, fun q _ => rfl, hsl⟩
  refine w_aload_n (q := 1) aX4_init_0 rfl rfl ?_
  refine w_obj (q := 4) aX4_init_1 o_4_1 (by decide) rfl ?_
  refine w_aload_n (q := 5) aX4_init_4 rfl rfl ?_
  refine w_bipush (v := 8) (q := 7) aX4_init_5 rfl rfl ?_
  refine al_G (N := 8) (a := 33) (q := 9) (q2 := 12) (fs' := [.ref 33, .null, .null, .null, .int 0, .null, .null, .null, .null, .null, .null, .null, .null, .null, .null, .null, .int 0, .int 0, .null, .null, .null, .null, .null, .null, .int 0, .int 0, .int 0, .int 0, .int 0, .long 0, .null]) aX4_init_7 (x_newL (by omega)) rfl aX4_init_9 f_4_7 (Nat.le_of_ble_eq_true rfl) rfl rfl (Or.inr ⟨rfl, rfl⟩) rfl rfl (by omega) (by omega) H0 (fun h100 H1 => ?_)
  clear H0
  refine w_aload_n (q := 13) aX4_init_12 rfl rfl ?_
  refine w_bipush (v := 6) (q := 15) aX4_init_13 rfl rfl ?_
  refine al_G (N := 6) (a := 34) (q := 17) (q2 := 20) (fs' := [.ref 33, .ref 34, .null, .null, .int 0, .null, .null, .null, .null, .null, .null, .null, .null, .null, .null, .null, .int 0, .int 0, .null, .null, .null, .null, .null, .null, .int 0, .int 0, .int 0, .int 0, .int 0, .long 0, .null]) aX4_init_15 (x_newI (by omega)) rfl aX4_init_17 f_4_13 (Nat.le_of_ble_eq_true rfl) rfl rfl (Or.inr ⟨rfl, rfl⟩) rfl rfl (by omega) (by omega) H1 (fun h101 H2 => ?_)
  clear H1
  refine w_aload_n (q := 21) aX4_init_20 rfl rfl ?_
  refine w_bipush (v := 72) (q := 23) aX4_init_21 rfl rfl ?_
  refine al_G (N := 72) (a := 35) (q := 25) (q2 := 28) (fs' := [.ref 33, .ref 34, .ref 35, .null, .int 0, .null, .null, .null, .null, .null, .null, .null, .null, .null, .null, .null, .int 0, .int 0, .null, .null, .null, .null, .null, .null, .int 0, .int 0, .int 0, .int 0, .int 0, .long 0, .null]) aX4_init_23 (x_newI (by omega)) rfl aX4_init_25 f_4_17 (Nat.le_of_ble_eq_true rfl) rfl rfl (Or.inr ⟨rfl, rfl⟩) rfl rfl (by omega) (by omega) H2 (fun h102 H3 => ?_)
  clear H2
  refine w_aload_n (q := 29) aX4_init_28 rfl rfl ?_
  refine w_bipush (v := 6) (q := 31) aX4_init_29 rfl rfl ?_
  refine al_G (N := 6) (a := 36) (q := 33) (q2 := 36) (fs' := [.ref 33, .ref 34, .ref 35, .ref 36, .int 0, .null, .null, .null, .null, .null, .null, .null, .null, .null, .null, .null, .int 0, .int 0, .null, .null, .null, .null, .null, .null, .int 0, .int 0, .int 0, .int 0, .int 0, .long 0, .null]) aX4_init_31 (x_newI (by omega)) rfl aX4_init_33 f_4_20 (Nat.le_of_ble_eq_true rfl) rfl rfl (Or.inr ⟨rfl, rfl⟩) rfl rfl (by omega) (by omega) H3 (fun h103 H4 => ?_)
  clear H3
  refine w_aload_n (q := 37) aX4_init_36 rfl rfl ?_
  refine w_bipush (v := 40) (q := 39) aX4_init_37 rfl rfl ?_
  refine al_G (N := 40) (a := 37) (q := 41) (q2 := 44) (fs' := [.ref 33, .ref 34, .ref 35, .ref 36, .int 0, .ref 37, .null, .null, .null, .null, .null, .null, .null, .null, .null, .null, .int 0, .int 0, .null, .null, .null, .null, .null, .null, .int 0, .int 0, .int 0, .int 0, .int 0, .long 0, .null]) aX4_init_39 (x_newI (by omega)) rfl aX4_init_41 f_4_23 (Nat.le_of_ble_eq_true rfl) rfl rfl (Or.inr ⟨rfl, rfl⟩) rfl rfl (by omega) (by omega) H4 (fun h104 H5 => ?_)
  clear H4
  refine w_aload_n (q := 45) aX4_init_44 rfl rfl ?_
  refine w_bipush (v := 40) (q := 47) aX4_init_45 rfl rfl ?_
  refine al_G (N := 40) (a := 38) (q := 49) (q2 := 52) (fs' := [.ref 33, .ref 34, .ref 35, .ref 36, .int 0, .ref 37, .ref 38, .null, .null, .null, .null, .null, .null, .null, .null, .null, .int 0, .int 0, .null, .null, .null, .null, .null, .null, .int 0, .int 0, .int 0, .int 0, .int 0, .long 0, .null]) aX4_init_47 (x_newI (by omega)) rfl aX4_init_49 f_4_26 (Nat.le_of_ble_eq_true rfl) rfl rfl (Or.inr ⟨rfl, rfl⟩) rfl rfl (by omega) (by omega) H5 (fun h105 H6 => ?_)
  clear H5
  refine w_aload_n (q := 53) aX4_init_52 rfl rfl ?_
  refine w_bipush (v := 40) (q := 55) aX4_init_53 rfl rfl ?_
  refine al_G (N := 40) (a := 39) (q := 57) (q2 := 60) (fs' := [.ref 33, .ref 34, .ref 35, .ref 36, .int 0, .ref 37, .ref 38, .ref 39, .null, .null, .null, .null, .null, .null, .null, .null, .int 0, .int 0, .null, .null, .null, .null, .null, .null, .int 0, .int 0, .int 0, .int 0, .int 0, .long 0, .null]) aX4_init_55 (x_newI (by omega)) rfl aX4_init_57 f_4_29 (Nat.le_of_ble_eq_true rfl) rfl rfl (Or.inr ⟨rfl, rfl⟩) rfl rfl (by omega) (by omega) H6 (fun h106 H7 => ?_)
  clear H6
  refine w_aload_n (q := 61) aX4_init_60 rfl rfl ?_
  refine w_bipush (v := 40) (q := 63) aX4_init_61 rfl rfl ?_
  refine al_G (N := 40) (a := 40) (q := 65) (q2 := 68) (fs' := [.ref 33, .ref 34, .ref 35, .ref 36, .int 0, .ref 37, .ref 38, .ref 39, .ref 40, .null, .null, .null, .null, .null, .null, .null, .int 0, .int 0, .null, .null, .null, .null, .null, .null, .int 0, .int 0, .int 0, .int 0, .int 0, .long 0, .null]) aX4_init_63 (x_newL (by omega)) rfl aX4_init_65 f_4_32 (Nat.le_of_ble_eq_true rfl) rfl rfl (Or.inr ⟨rfl, rfl⟩) rfl rfl (by omega) (by omega) H7 (fun h107 H8 => ?_)
  clear H7
  refine w_aload_n (q := 69) aX4_init_68 rfl rfl ?_
  refine w_bipush (v := 40) (q := 71) aX4_init_69 rfl rfl ?_
  refine al_G (N := 40) (a := 41) (q := 73) (q2 := 76) (fs' := [.ref 33, .ref 34, .ref 35, .ref 36, .int 0, .ref 37, .ref 38, .ref 39, .ref 40, .ref 41, .null, .null, .null, .null, .null, .null, .int 0, .int 0, .null, .null, .null, .null, .null, .null, .int 0, .int 0, .int 0, .int 0, .int 0, .long 0, .null]) aX4_init_71 (x_newI (by omega)) rfl aX4_init_73 f_4_35 (Nat.le_of_ble_eq_true rfl) rfl rfl (Or.inr ⟨rfl, rfl⟩) rfl rfl (by omega) (by omega) H8 (fun h108 H9 => ?_)
  clear H8
  refine w_aload_n (q := 77) aX4_init_76 rfl rfl ?_
  refine w_bipush (v := 40) (q := 79) aX4_init_77 rfl rfl ?_
  refine al_G (N := 40) (a := 42) (q := 81) (q2 := 84) (fs' := [.ref 33, .ref 34, .ref 35, .ref 36, .int 0, .ref 37, .ref 38, .ref 39, .ref 40, .ref 41, .ref 42, .null, .null, .null, .null, .null, .int 0, .int 0, .null, .null, .null, .null, .null, .null, .int 0, .int 0, .int 0, .int 0, .int 0, .long 0, .null]) aX4_init_79 (x_newI (by omega)) rfl aX4_init_81 f_4_38 (Nat.le_of_ble_eq_true rfl) rfl rfl (Or.inr ⟨rfl, rfl⟩) rfl rfl (by omega) (by omega) H9 (fun h109 H10 => ?_)
  clear H9
  refine w_aload_n (q := 85) aX4_init_84 rfl rfl ?_
  refine w_bipush (v := 40) (q := 87) aX4_init_85 rfl rfl ?_
  refine al_G (N := 40) (a := 43) (q := 89) (q2 := 92) (fs' := [.ref 33, .ref 34, .ref 35, .ref 36, .int 0, .ref 37, .ref 38, .ref 39, .ref 40, .ref 41, .ref 42, .ref 43, .null, .null, .null, .null, .int 0, .int 0, .null, .null, .null, .null, .null, .null, .int 0, .int 0, .int 0, .int 0, .int 0, .long 0, .null]) aX4_init_87 (x_newI (by omega)) rfl aX4_init_89 f_4_41 (Nat.le_of_ble_eq_true rfl) rfl rfl (Or.inr ⟨rfl, rfl⟩) rfl rfl (by omega) (by omega) H10 (fun h110 H11 => ?_)
  clear H10
  refine w_aload_n (q := 93) aX4_init_92 rfl rfl ?_
  refine w_bipush (v := 40) (q := 95) aX4_init_93 rfl rfl ?_
  refine al_G (N := 40) (a := 44) (q := 97) (q2 := 100) (fs' := [.ref 33, .ref 34, .ref 35, .ref 36, .int 0, .ref 37, .ref 38, .ref 39, .ref 40, .ref 41, .ref 42, .ref 43, .ref 44, .null, .null, .null, .int 0, .int 0, .null, .null, .null, .null, .null, .null, .int 0, .int 0, .int 0, .int 0, .int 0, .long 0, .null]) aX4_init_95 (x_newI (by omega)) rfl aX4_init_97 f_4_44 (Nat.le_of_ble_eq_true rfl) rfl rfl (Or.inr ⟨rfl, rfl⟩) rfl rfl (by omega) (by omega) H11 (fun h111 H12 => ?_)
  clear H11
  refine w_aload_n (q := 101) aX4_init_100 rfl rfl ?_
  refine w_bipush (v := 40) (q := 103) aX4_init_101 rfl rfl ?_
  refine al_G (N := 40) (a := 45) (q := 105) (q2 := 108) (fs' := [.ref 33, .ref 34, .ref 35, .ref 36, .int 0, .ref 37, .ref 38, .ref 39, .ref 40, .ref 41, .ref 42, .ref 43, .ref 44, .ref 45, .null, .null, .int 0, .int 0, .null, .null, .null, .null, .null, .null, .int 0, .int 0, .int 0, .int 0, .int 0, .long 0, .null]) aX4_init_103 (x_newI (by omega)) rfl aX4_init_105 f_4_47 (Nat.le_of_ble_eq_true rfl) rfl rfl (Or.inr ⟨rfl, rfl⟩) rfl rfl (by omega) (by omega) H12 (fun h112 H13 => ?_)
  clear H12
  refine w_aload_n (q := 109) aX4_init_108 rfl rfl ?_
  refine w_bipush (v := 20) (q := 111) aX4_init_109 rfl rfl ?_
  refine al_G (N := 20) (a := 46) (q := 113) (q2 := 116) (fs' := [.ref 33, .ref 34, .ref 35, .ref 36, .int 0, .ref 37, .ref 38, .ref 39, .ref 40, .ref 41, .ref 42, .ref 43, .ref 44, .ref 45, .ref 46, .null, .int 0, .int 0, .null, .null, .null, .null, .null, .null, .int 0, .int 0, .int 0, .int 0, .int 0, .long 0, .null]) aX4_init_111 (x_newI (by omega)) rfl aX4_init_113 f_4_50 (Nat.le_of_ble_eq_true rfl) rfl rfl (Or.inr ⟨rfl, rfl⟩) rfl rfl (by omega) (by omega) H13 (fun h113 H14 => ?_)
  clear H13
  refine w_aload_n (q := 117) aX4_init_116 rfl rfl ?_
  refine w_bipush (v := 20) (q := 119) aX4_init_117 rfl rfl ?_
  refine al_G (N := 20) (a := 47) (q := 121) (q2 := 124) (fs' := [.ref 33, .ref 34, .ref 35, .ref 36, .int 0, .ref 37, .ref 38, .ref 39, .ref 40, .ref 41, .ref 42, .ref 43, .ref 44, .ref 45, .ref 46, .ref 47, .int 0, .int 0, .null, .null, .null, .null, .null, .null, .int 0, .int 0, .int 0, .int 0, .int 0, .long 0, .null]) aX4_init_119 (x_newL (by omega)) rfl aX4_init_121 f_4_53 (Nat.le_of_ble_eq_true rfl) rfl rfl (Or.inr ⟨rfl, rfl⟩) rfl rfl (by omega) (by omega) H14 (fun h114 H15 => ?_)
  clear H14
  refine w_aload_n (q := 125) aX4_init_124 rfl rfl ?_
  refine w_sipush (v := 600) (q := 128) aX4_init_125 rfl rfl ?_
  refine al_G (N := 600) (a := 48) (q := 130) (q2 := 133) (fs' := [.ref 33, .ref 34, .ref 35, .ref 36, .int 0, .ref 37, .ref 38, .ref 39, .ref 40, .ref 41, .ref 42, .ref 43, .ref 44, .ref 45, .ref 46, .ref 47, .int 0, .int 0, .ref 48, .null, .null, .null, .null, .null, .int 0, .int 0, .int 0, .int 0, .int 0, .long 0, .null]) aX4_init_128 (x_newI (by omega)) rfl aX4_init_130 f_4_56 (Nat.le_of_ble_eq_true rfl) rfl rfl (Or.inr ⟨rfl, rfl⟩) rfl rfl (by omega) (by omega) H15 (fun h115 H16 => ?_)
  clear H15
  refine w_aload_n (q := 134) aX4_init_133 rfl rfl ?_
  refine w_sipush (v := 600) (q := 137) aX4_init_134 rfl rfl ?_
  refine al_G (N := 600) (a := 49) (q := 139) (q2 := 142) (fs' := [.ref 33, .ref 34, .ref 35, .ref 36, .int 0, .ref 37, .ref 38, .ref 39, .ref 40, .ref 41, .ref 42, .ref 43, .ref 44, .ref 45, .ref 46, .ref 47, .int 0, .int 0, .ref 48, .ref 49, .null, .null, .null, .null, .int 0, .int 0, .int 0, .int 0, .int 0, .long 0, .null]) aX4_init_137 (x_newI (by omega)) rfl aX4_init_139 f_4_59 (Nat.le_of_ble_eq_true rfl) rfl rfl (Or.inr ⟨rfl, rfl⟩) rfl rfl (by omega) (by omega) H16 (fun h116 H17 => ?_)
  clear H16
  refine w_aload_n (q := 143) aX4_init_142 rfl rfl ?_
  refine w_sipush (v := 600) (q := 146) aX4_init_143 rfl rfl ?_
  refine al_G (N := 600) (a := 50) (q := 148) (q2 := 151) (fs' := [.ref 33, .ref 34, .ref 35, .ref 36, .int 0, .ref 37, .ref 38, .ref 39, .ref 40, .ref 41, .ref 42, .ref 43, .ref 44, .ref 45, .ref 46, .ref 47, .int 0, .int 0, .ref 48, .ref 49, .ref 50, .null, .null, .null, .int 0, .int 0, .int 0, .int 0, .int 0, .long 0, .null]) aX4_init_146 (x_newL (by omega)) rfl aX4_init_148 f_4_62 (Nat.le_of_ble_eq_true rfl) rfl rfl (Or.inr ⟨rfl, rfl⟩) rfl rfl (by omega) (by omega) H17 (fun h117 H18 => ?_)
  clear H17
  refine w_aload_n (q := 152) aX4_init_151 rfl rfl ?_
  refine w_sipush (v := 600) (q := 155) aX4_init_152 rfl rfl ?_
  refine al_G (N := 600) (a := 51) (q := 157) (q2 := 160) (fs' := [.ref 33, .ref 34, .ref 35, .ref 36, .int 0, .ref 37, .ref 38, .ref 39, .ref 40, .ref 41, .ref 42, .ref 43, .ref 44, .ref 45, .ref 46, .ref 47, .int 0, .int 0, .ref 48, .ref 49, .ref 50, .ref 51, .null, .null, .int 0, .int 0, .int 0, .int 0, .int 0, .long 0, .null]) aX4_init_155 (x_newI (by omega)) rfl aX4_init_157 f_4_65 (Nat.le_of_ble_eq_true rfl) rfl rfl (Or.inr ⟨rfl, rfl⟩) rfl rfl (by omega) (by omega) H18 (fun h118 H19 => ?_)
  clear H18
  refine w_aload_n (q := 161) aX4_init_160 rfl rfl ?_
  refine w_sipush (v := 600) (q := 164) aX4_init_161 rfl rfl ?_
  refine al_G (N := 600) (a := 52) (q := 166) (q2 := 169) (fs' := [.ref 33, .ref 34, .ref 35, .ref 36, .int 0, .ref 37, .ref 38, .ref 39, .ref 40, .ref 41, .ref 42, .ref 43, .ref 44, .ref 45, .ref 46, .ref 47, .int 0, .int 0, .ref 48, .ref 49, .ref 50, .ref 51, .ref 52, .null, .int 0, .int 0, .int 0, .int 0, .int 0, .long 0, .null]) aX4_init_164 (x_newI (by omega)) rfl aX4_init_166 f_4_68 (Nat.le_of_ble_eq_true rfl) rfl rfl (Or.inr ⟨rfl, rfl⟩) rfl rfl (by omega) (by omega) H19 (fun h119 H20 => ?_)
  clear H19
  refine w_aload_n (q := 170) aX4_init_169 rfl rfl ?_
  refine w_sipush (v := 7200) (q := 173) aX4_init_170 rfl rfl ?_
  refine al_G (N := 7200) (a := 53) (q := 175) (q2 := 178) (fs' := [.ref 33, .ref 34, .ref 35, .ref 36, .int 0, .ref 37, .ref 38, .ref 39, .ref 40, .ref 41, .ref 42, .ref 43, .ref 44, .ref 45, .ref 46, .ref 47, .int 0, .int 0, .ref 48, .ref 49, .ref 50, .ref 51, .ref 52, .ref 53, .int 0, .int 0, .int 0, .int 0, .int 0, .long 0, .null]) aX4_init_173 (x_newI (by omega)) rfl aX4_init_175 f_4_71 (Nat.le_of_ble_eq_true rfl) rfl rfl (Or.inr ⟨rfl, rfl⟩) rfl rfl (by omega) (by omega) H20 (fun h120 H21 => ?_)
  clear H20
  refine w_aload_n (q := 179) aX4_init_178 rfl rfl ?_
  refine w_bipush (v := 10) (q := 181) aX4_init_179 rfl rfl ?_
  refine al_G (N := 10) (a := 54) (q := 183) (q2 := 186) (fs' := [.ref 33, .ref 34, .ref 35, .ref 36, .int 0, .ref 37, .ref 38, .ref 39, .ref 40, .ref 41, .ref 42, .ref 43, .ref 44, .ref 45, .ref 46, .ref 47, .int 0, .int 0, .ref 48, .ref 49, .ref 50, .ref 51, .ref 52, .ref 53, .int 0, .int 0, .int 0, .int 0, .int 0, .long 0, .ref 54]) aX4_init_181 (x_newI (by omega)) rfl aX4_init_183 f_4_74 (Nat.le_of_ble_eq_true rfl) rfl rfl (Or.inr ⟨rfl, rfl⟩) rfl rfl (by omega) (by omega) H21 (fun h121 H22 => ?_)
  clear H21
  have H := H22
  clear H22
  have hm : hM s00 0 (0, 0, 0, 0) w00 h121 := by
    intro q k1 k2
    have hz : ∀ q, 33 ≤ q → q < 55 → z4 q = cM s00 0 (0, 0, 0, 0) w00 q := by
      intro q k1 k2
      rcases q23 q (by omega) k2 with rfl | rfl | rfl | rfl | rfl | rfl | rfl | rfl | rfl | rfl | rfl | rfl | rfl | rfl | rfl | rfl | rfl | rfl | rfl | rfl | rfl | rfl | rfl
      · omega
      · rfl
      · rfl
      · rfl
      · rfl
      · exact congrArg (fun z => ((5 : Nat), z)) (rg_z (fun j => by rw [if_neg (show ¬ j < sM s00 from Nat.not_lt_zero j)]))
      · exact congrArg (fun z => ((5 : Nat), z)) (rg_z (fun j => by rw [if_neg (show ¬ j < sM s00 from Nat.not_lt_zero j)]))
      · exact congrArg (fun z => ((5 : Nat), z)) (rg_z (fun j => by rw [if_neg (show ¬ j < sM s00 from Nat.not_lt_zero j)]))
      · exact congrArg (fun z => ((6 : Nat), z)) (rg_z (fun j => by rw [if_neg (show ¬ j < sM s00 from Nat.not_lt_zero j)]))
      · exact congrArg (fun z => ((5 : Nat), z)) (rg_z (fun j => by rw [if_neg (show ¬ j < sM s00 from Nat.not_lt_zero j)]))
      · exact congrArg (fun z => ((5 : Nat), z)) (rg_z (fun j => by rw [if_neg (show ¬ j < sM s00 from Nat.not_lt_zero j)]))
      · rfl
      · exact congrArg (fun z => ((5 : Nat), z)) (rg_z (fun j => by rw [if_neg (show ¬ j < sM s00 from Nat.not_lt_zero j)]))
      · exact congrArg (fun z => ((5 : Nat), z)) (rg_z (fun j => by rw [if_neg (show ¬ j < sM s00 from Nat.not_lt_zero j)]))
      · rfl
      · rfl
      · rfl
      · rfl
      · rfl
      · rfl
      · rfl
      · rfl
      · exact congrArg (fun z => ((5 : Nat), z)) (rg_z (fun j => by
          by_cases e : j = 0
          · rw [if_pos e]; rfl
          · rw [if_neg e]; rfl))
    by_cases e : q = 32
    · subst e
      exact H.2.1
    · exact (H.2.2.1 q (by omega) k2).trans (congrArg some (hz q (by omega) k2))
  have hR : RM s00 [] (0, 0, 0, 0) h121 := ⟨w00, hm, fun k hk => ⟨Nat.zero_le _, List.nodup_nil, fun i x hx => by cases hx⟩, fun k hk => absurd hk (Nat.not_lt_zero _), ⟨by decide, fun i e he => by cases he⟩, fun p f hp => by cases hp⟩
  refine w_aload_n (q := 187) aX4_init_186 rfl rfl ?_
  refine w_iconst (v := 0) (q := 188) aX4_init_187 rfl rfl ?_
  refine w_iconst (v := 0) (q := 189) aX4_init_188 rfl rfl ?_
  refine w_iconst (v := 0) (q := 190) aX4_init_189 rfl rfl ?_
  refine w_callV aX4_init_190 t_4_77 (this_at rfl H.2.1) (rfl) (d_make (S := s00) (P := []) (by decide) (fun z => absurd z (by decide)) (fun z => absurd z (by decide)) (fun z => absurd z (by decide)) hR) (fun r190 h190 hp => ?_)
  obtain ⟨rfl, hR2, hf2⟩ := hp
  obtain ⟨c2, e2⟩ := r_cell hR2
  refine w_aload_n (q := 194) aX4_init_193 rfl rfl ?_
  refine w_bipush (v := 7) (q := 196) aX4_init_194 rfl rfl ?_
  refine w_iconst (v := 0) (q := 197) aX4_init_196 rfl rfl ?_
  refine w_iconst (v := 0) (q := 198) aX4_init_197 rfl rfl ?_
  refine w_callV aX4_init_198 t_4_77 (this_at rfl e2) (rfl) (d_make (S := p_make s00 0 0 0) (P := []) (by decide) (fun z => absurd z (by decide)) (fun z => absurd z (by decide)) (fun z => absurd z (by decide)) hR2) (fun r198 h198 hp => ?_)
  obtain ⟨rfl, hR3, hf3⟩ := hp
  refine w_vret aX4_init_201 rfl ?_
  have hf := hf2.tr hf3
  refine ⟨rfl, ⟨_, hR3⟩, hf.1.trans H.1, ?_, fun q hq => (hf.2.2 q (fun z => by have := z.1; omega)).trans (H.2.2.2.1 q (by omega))⟩
  have h5 := H.2.2.2.2
  rw [hf.2.1]
  simp only [rg_len] at h5
  omega
