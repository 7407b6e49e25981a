/-! THE REFERENCE: its object at 32, its rows from 33 on. A frame of its pile: what, of, with, who is to be told, how many were -/
abbrev Fr : Type := Int32 × Int32 × Int64 × List Int32 × Nat
/-- failure, stops, beginning, value -/
abbrev Xs : Type := Int32 × Int32 × Int32 × Int64
/-- what the reference holds beside the state: lines, times, the queue's two rows, the pile's six -/
abbrev Raw : Type := (Nat → Int32) × (Nat → Int32) × (Nat → Int32) × (Nat → Int64) × (Nat → Int32) × (Nat → Int32) × (Nat → Int64) × (Nat → Int32) × (Nat → Int32) × (Nat → Int32)
def oI (o : Option Nat) : Int32 := match o with
  | none => -1
  | some k => nI k
def moL (S : St) (n : Nat) (X : Xs) : List Value := [.ref 33, .ref 34, .ref 35, .ref 36, .int (nI (sM S)), .ref 37, .ref 38, .ref 39, .ref 40, .ref 41, .ref 42, .ref 43, .ref 44, .ref 45, .ref 46, .ref 47, .int (nI (sQ S).length), .int (nI n), .ref 48, .ref 49, .ref 50, .ref 51, .ref 52, .ref 53, .int (nI (sD S)), .int (nI (sS S)), .int X.1, .int X.2.1, .int X.2.2.1, .long X.2.2.2, .ref 54]
def cM (S : St) (n : Nat) (X : Xs) (w : Raw) (q : Nat) : mm_C := match q with
  | 32 => (4, moL S n X)
  | 33 => (6, rg 8 (fun j => .long (sT S j)))
  | 34 => (5, rg 6 (fun j => .int (sW S j)))
  | 35 => (5, rg 72 (fun j => .int (w.1 j)))
  | 36 => (5, rg 6 (fun j => .int (nI (sL S j).length)))
  | 37 => (5, rg 40 (fun j => .int (if j < sM S then (sA S j).1 else 0)))
  | 38 => (5, rg 40 (fun j => .int (if j < sM S then (sA S j).2.1 else 0)))
  | 39 => (5, rg 40 (fun j => .int (if j < sM S then (sA S j).2.2.1 else 0)))
  | 40 => (6, rg 40 (fun j => .long (if j < sM S then (sA S j).2.2.2.1 else 0)))
  | 41 => (5, rg 40 (fun j => .int (if j < sM S then oI (sA S j).2.2.2.2.1 else 0)))
  | 42 => (5, rg 40 (fun j => .int (if j < sM S then oI (sA S j).2.2.2.2.2 else 0)))
  | 43 => (5, rg 40 (fun j => .int (w.2.1 j)))
  | 44 => (5, rg 40 (fun j => .int (if j < sM S then nI (sB S j) else 0)))
  | 45 => (5, rg 40 (fun j => .int (if j < sM S then oI (sH S j) else 0)))
  | 46 => (5, rg 20 (fun j => .int (w.2.2.1 j)))
  | 47 => (6, rg 20 (fun j => .long (w.2.2.2.1 j)))
  | 48 => (5, rg 600 (fun j => .int (w.2.2.2.2.1 j)))
  | 49 => (5, rg 600 (fun j => .int (w.2.2.2.2.2.1 j)))
  | 50 => (6, rg 600 (fun j => .long (w.2.2.2.2.2.2.1 j)))
  | 51 => (5, rg 600 (fun j => .int (w.2.2.2.2.2.2.2.1 j)))
  | 52 => (5, rg 600 (fun j => .int (w.2.2.2.2.2.2.2.2.1 j)))
  | 53 => (5, rg 7200 (fun j => .int (w.2.2.2.2.2.2.2.2.2 j)))
  | _ => (5, rg 10 (fun j => .int (if j = 0 then nI (sM S) else sC S j)))
/-- the cells -/
def hM (S : St) (n : Nat) (X : Xs) (w : Raw) (h : mm_H) : Prop := ∀ q, 32 ≤ q → q < 55 → h.2.2 q = some (cM S n X w q)
theorem q23 (q : Nat) (h1 : 32 ≤ q) (h2 : q < 55) : q = 32 ∨ q = 33 ∨ q = 34 ∨ q = 35 ∨ q = 36 ∨ q = 37 ∨ q = 38 ∨ q = 39 ∨ q = 40 ∨ q = 41 ∨ q = 42 ∨ q = 43 ∨ q = 44 ∨ q = 45 ∨ q = 46 ∨ q = 47 ∨ q = 48 ∨ q = 49 ∨ q = 50 ∨ q = 51 ∨ q = 52 ∨ q = 53 ∨ q = 54 := by omega
theorem hM.up {S S' : St} {n n' : Nat} {X X' : Xs} {w w' : Raw} {h : mm_H} {a : Nat} {c : mm_C} (hm : hM S n X w h) (hx : c = cM S' n' X' w' a) (ho : ∀ q, 32 ≤ q → q < 55 → ¬ q = a → cM S' n' X' w' q = cM S n X w q) : hM S' n' X' w' (mm_up h a c) := by
  intro q h1 h2
  by_cases e : q = a
  · subst e
    rw [up_s, hx]
  · rw [up_n e, hm q h1 h2, ho q h1 h2 e]
/-- the lines -/
def rLn (S : St) (li : Nat → Int32) : Prop := ∀ k, k < 6 → (sL S k).length ≤ 12 ∧ (sL S k).Nodup ∧ ∀ i x, (sL S k)[i]? = some x → li (12 * k + i) = x
/-- how often a FIRST has done its act, an EACH since its last -/
def rTm (A : Act9) (n : Nat) (t : Int32) : Prop := (A.1 = 8 → ∃ c : Nat, t = nI c ∧ c ≤ n ∧ ((n : Int) < A.2.2.1.toInt → c = n) ∧ (A.2.2.1.toInt ≤ (n : Int) → A.2.2.1.toInt ≤ (c : Int))) ∧ (A.1 = 9 → ∃ c : Nat, t = nI c ∧ c = n % (if A.2.2.1 < 1 then 1 else A.2.2.1.toNatClampNeg))
def rTi (S : St) (ti : Nat → Int32) : Prop := ∀ k, k < sM S → rTm (sA S k) (sB S k) (ti k)
def rQu (S : St) (qb : Nat → Int32) (qv : Nat → Int64) : Prop := (sQ S).length ≤ 20 ∧ ∀ i e, (sQ S)[i]? = some e → qb i = e.1 ∧ qv i = e.2
/-- the pile -/
def rPi (P : List Fr) (w : Raw) : Prop := ∀ p f, P[p]? = some f → w.2.2.2.2.1 p = f.1 ∧ w.2.2.2.2.2.1 p = f.2.1 ∧ w.2.2.2.2.2.2.1 p = f.2.2.1 ∧ (f.1 = 0 → w.2.2.2.2.2.2.2.1 p = nI f.2.2.2.2 ∧ w.2.2.2.2.2.2.2.2.1 p = nI f.2.2.2.1.length ∧ f.2.2.2.1.length ≤ 12 ∧ ∀ i x, f.2.2.2.1[i]? = some x → w.2.2.2.2.2.2.2.2.2 (12 * p + i) = x)
/-- the reference's cells hold the state S, the pile P and X -/
def RM (S : St) (P : List Fr) (X : Xs) (h : mm_H) : Prop := ∃ w : Raw, hM S P.length X w h ∧ rLn S w.1 ∧ rTi S w.2.1 ∧ rQu S w.2.2.1 w.2.2.2.1 ∧ rPi P w
def AM (q : Nat) : Prop := 32 ≤ q ∧ q < 55
theorem AM_l {a : Nat} (h : 32 ≤ a ∧ a < 55) : AM a := h
/-- a call's end in the reference -/
def mP (q : Int32 × St) (P : List Fr) (X : Xs) (h : mm_H) : Option Value → mm_H → Prop := fun r h' => r = some (.int q.1) ∧ RM q.2 P X h' ∧ fr AM h h'
