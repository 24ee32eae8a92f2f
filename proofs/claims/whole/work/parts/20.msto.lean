/-! CutDistancesModel: the object at 84, its rows at 85 .. 103 -/
def mLen (q : Nat) : Nat := match q with
  | 85 => 36
  | 86 => 6
  | 87 => 6
  | 88 => 8
  | 89 => 288
  | 90 => 80
  | 91 => 6
  | 92 => 6
  | 93 => 120
  | 94 => 36
  | 95 => 6
  | 96 => 6
  | 97 => 36
  | 98 => 6
  | 100 => 36
  | 101 => 32
  | 102 => 36
  | 103 => 120
  | _ => 0
theorem mL85 : mLen 85 = 36 := rfl
theorem mL86 : mLen 86 = 6 := rfl
theorem mL87 : mLen 87 = 6 := rfl
theorem mL88 : mLen 88 = 8 := rfl
theorem mL89 : mLen 89 = 288 := rfl
theorem mL90 : mLen 90 = 80 := rfl
theorem mL91 : mLen 91 = 6 := rfl
theorem mL92 : mLen 92 = 6 := rfl
theorem mL93 : mLen 93 = 120 := rfl
theorem mL94 : mLen 94 = 36 := rfl
theorem mL95 : mLen 95 = 6 := rfl
theorem mL96 : mLen 96 = 6 := rfl
theorem mL97 : mLen 97 = 36 := rfl
theorem mL98 : mLen 98 = 6 := rfl
theorem mL100 : mLen 100 = 36 := rfl
theorem mL101 : mLen 101 = 32 := rfl
theorem mL102 : mLen 102 = 36 := rfl
theorem mL103 : mLen 103 = 120 := rfl
def mFs (G : GT) (N D T : Nat) (z : Nat → Int32) : List Value := [.int (nI N), .ref (adr G 85), .ref (adr G 86), .ref (adr G 87), .int (nI D), .ref (adr G 88), .ref (adr G 89), .ref (adr G 90), .int (nI T), .ref (adr G 91), .ref (adr G 92), .ref (adr G 93), .int (z 12), .int (z 13), .ref (adr G 94), .ref (adr G 95), .ref (adr G 96), .ref (adr G 97), .int (z 18), .ref (adr G 98), .ref (adr G 99), .ref (adr G 100), .ref (adr G 101), .int (z 23), .int (z 24), .int (z 25), .int (z 26), .int (z 27), .int (z 28), .ref (adr G 102), .ref (adr G 103), .int (z 31)]
def putM (G : GT) (σ : Sto) (N D T : Nat) (z : Nat → Int32) (a : Nat → Nat → Int32) (tb : Nat → Int64) : Sto := fun q =>
  if q = 84 then ob 10 (mFs G N D T z) else if q = 99 then aJ G 465 tb else if 85 ≤ q ∧ q < 104 then aI G (mLen q) (a q) else σ q
section MSTO
variable {G : GT} {σ : Sto} {N D T : Nat} {z : Nat → Int32} {a : Nat → Nat → Int32} {tb : Nat → Int64}
theorem pMn {q : Nat} (h : q < 84 ∨ 103 < q) : putM G σ N D T z a tb q = σ q := by
  unfold putM
  rw [if_neg (by omega), if_neg (by omega), if_neg (by omega)]
theorem pMa {q : Nat} {f : Nat → Int32} (h : 85 ≤ q ∧ q < 104 ∧ q ≠ 99) : va_up (putM G σ N D T z a tb) q (aI G (mLen q) f) = putM G σ N D T z (va_up a q f) tb := by
  funext r
  by_cases hr : r = q
  · subst hr
    rw [up_s]
    unfold putM
    rw [if_neg (by omega), if_neg (by omega), if_pos (by omega), up_s]
  · rw [up_n hr]
    unfold putM
    rw [up_n hr]
theorem pMt {f : Nat → Int64} : va_up (putM G σ N D T z a tb) 99 (aJ G 465 f) = putM G σ N D T z a f := by
  funext r
  by_cases hr : r = 99
  · subst hr; rfl
  · rw [up_n hr]
    unfold putM
    simp only [hr, if_false]
theorem pMz_ {N2 D2 T2 : Nat} {z2 : Nat → Int32} : va_up (putM G σ N D T z a tb) 84 (ob 10 (mFs G N2 D2 T2 z2)) = putM G σ N2 D2 T2 z2 a tb := by
  funext r
  by_cases hr : r = 84
  · subst hr; rfl
  · rw [up_n hr]
    unfold putM
    simp only [hr, if_false]
theorem pMz0 {N2 : Nat} : va_up (putM G σ N D T z a tb) 84 (ob 10 ((mFs G N D T z).set 0 (.int (nI N2)))) = putM G σ N2 D T z a tb := pMz_ (N2 := N2) (D2 := D) (T2 := T)
theorem pMz4 {D2 : Nat} : va_up (putM G σ N D T z a tb) 84 (ob 10 ((mFs G N D T z).set 4 (.int (nI D2)))) = putM G σ N D2 T z a tb := pMz_ (N2 := N) (D2 := D2) (T2 := T)
theorem pMz8 {T2 : Nat} : va_up (putM G σ N D T z a tb) 84 (ob 10 ((mFs G N D T z).set 8 (.int (nI T2)))) = putM G σ N D T2 z a tb := pMz_ (N2 := N) (D2 := D) (T2 := T2)
theorem pMz12 {v : Int32} : va_up (putM G σ N D T z a tb) 84 (ob 10 ((mFs G N D T z).set 12 (.int v))) = putM G σ N D T (va_up z 12 v) a tb := pMz_ (z2 := va_up z 12 v)
theorem pMz13 {v : Int32} : va_up (putM G σ N D T z a tb) 84 (ob 10 ((mFs G N D T z).set 13 (.int v))) = putM G σ N D T (va_up z 13 v) a tb := pMz_ (z2 := va_up z 13 v)
theorem pMz18 {v : Int32} : va_up (putM G σ N D T z a tb) 84 (ob 10 ((mFs G N D T z).set 18 (.int v))) = putM G σ N D T (va_up z 18 v) a tb := pMz_ (z2 := va_up z 18 v)
theorem pMz23 {v : Int32} : va_up (putM G σ N D T z a tb) 84 (ob 10 ((mFs G N D T z).set 23 (.int v))) = putM G σ N D T (va_up z 23 v) a tb := pMz_ (z2 := va_up z 23 v)
theorem pMz24 {v : Int32} : va_up (putM G σ N D T z a tb) 84 (ob 10 ((mFs G N D T z).set 24 (.int v))) = putM G σ N D T (va_up z 24 v) a tb := pMz_ (z2 := va_up z 24 v)
theorem pMz25 {v : Int32} : va_up (putM G σ N D T z a tb) 84 (ob 10 ((mFs G N D T z).set 25 (.int v))) = putM G σ N D T (va_up z 25 v) a tb := pMz_ (z2 := va_up z 25 v)
theorem pMz26 {v : Int32} : va_up (putM G σ N D T z a tb) 84 (ob 10 ((mFs G N D T z).set 26 (.int v))) = putM G σ N D T (va_up z 26 v) a tb := pMz_ (z2 := va_up z 26 v)
theorem pMz27 {v : Int32} : va_up (putM G σ N D T z a tb) 84 (ob 10 ((mFs G N D T z).set 27 (.int v))) = putM G σ N D T (va_up z 27 v) a tb := pMz_ (z2 := va_up z 27 v)
theorem pMz28 {v : Int32} : va_up (putM G σ N D T z a tb) 84 (ob 10 ((mFs G N D T z).set 28 (.int v))) = putM G σ N D T (va_up z 28 v) a tb := pMz_ (z2 := va_up z 28 v)
theorem pMz31 {v : Int32} : va_up (putM G σ N D T z a tb) 84 (ob 10 ((mFs G N D T z).set 31 (.int v))) = putM G σ N D T (va_up z 31 v) a tb := pMz_ (z2 := va_up z 31 v)
end MSTO
