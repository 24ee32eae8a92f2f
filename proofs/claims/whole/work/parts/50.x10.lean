section X10
variable {G : GT} {σ σ' : Sto} {A : XA} {B : XB} {C : XC} {I : XI} {H : XH} {T : XT}
/-! gauges -/
def xGa1 (op : Int32 → Int32 → Int32) (N : Nat) (x : Int32) (f : Nat → Int32) (i j : Nat) (s : Int32) : Int32 := s + (op (x >>> (nI i &&& 31)) (x >>> (nI j &&& 31)) &&& nI 1) * dT N f i j
def xGa2 (op : Int32 → Int32 → Int32) (N : Nat) (x : Int32) (f : Nat → Int32) (i : Nat) (s : Int32) : Int32 := upn (N - (i + 1)) (i + 1) (xGa1 op N x f i) s
def xGa (op : Int32 → Int32 → Int32) (N : Nat) (x : Int32) (f : Nat → Int32) : Int32 := upn N 0 (xGa2 op N x f) (nI 0)
def xMx1 (N : Nat) (x : Int32) (f : Nat → Int32) (i j : Nat) (s : Int32) : Int32 := if s < (x >>> (nI i &&& 31) &&& x >>> (nI j &&& 31) &&& nI 1) * dT N f i j then (x >>> (nI i &&& 31) &&& x >>> (nI j &&& 31) &&& nI 1) * dT N f i j else s
def xMx2 (N : Nat) (x : Int32) (f : Nat → Int32) (i : Nat) (s : Int32) : Int32 := upn (N - (i + 1)) (i + 1) (xMx1 N x f i) s
def xMx (N : Nat) (x : Int32) (f : Nat → Int32) : Int32 := upn N 0 (xMx2 N x f) (nI 0)
theorem x_within (h : isX G σ A B C I H T) {x : Int32} : ConP G mX9_within 3 [.ref (adr G 0), .int x] σ (rI (xGa (· &&& ·) A.1 x A.2) σ) := by
  obtain ⟨x0, x1, -⟩ := h
  have e1 := x1.2.2.1
  have hN6 := x1.2.2.2.2.2
  refine ConP.of rfl (Nat.le_of_ble_eq_true rfl) ?_
  refine k_iconst (pc' := 1) (v := nI 0) dX9_within_0 rfl ?_
  refine k_istore_n (pc' := 2) dX9_within_1 (Nat.le_of_ble_eq_true rfl) rfl ?_
  refine k_iconst (pc' := 3) (v := nI 0) dX9_within_2 rfl ?_
  refine k_istore_n (pc' := 4) dX9_within_3 (Nat.le_of_ble_eq_true rfl) rfl ?_
  refine loopU (fun i s => ∀ y, OkP G mX9_within 3 (rI (xGa (· &&& ·) A.1 x A.2) σ) 4 [some (.ref (adr G 0)), some (.int x), some (.int s), some (.int (nI i)), y] [] σ) (xGa2 (· &&& ·) A.1 x A.2) A.1 0 A.1 (nI 0) (by omega) ?_ ?_ none
  · intro i s _ hi' ih y
    refine k_iload_n (pc' := 5) dX9_within_4 rfl ?_
    refine k_aload_n (pc' := 6) dX9_within_5 rfl ?_
    refine p_get (pc' := 9) clX9 (Nat.le_of_ble_eq_true rfl) fl_RX9_12 dX9_within_6 (by first | assumption | decide | omega) (by assumption) rfl ?_
    refine p_get (pc' := 12) clX6 (Nat.le_of_ble_eq_true rfl) fl_RX9_87 dX9_within_9 (by first | assumption | decide | omega) (by assumption) rfl ?_
    refine k_icmp_ge (tgt := 68) (pc' := 15) dX9_within_12 rfl (fun zz_ => absurd zz_ (nI_ge (by omega) (by omega))) (fun _ => ?_)
    refine k_iload_n (pc' := 16) dX9_within_15 rfl ?_
    refine k_iconst (pc' := 17) (v := nI 1) dX9_within_16 rfl ?_
    refine k_iadd (pc' := 18) dX9_within_17 (by first | exact nI_add _ _ | rfl) ?_
    refine k_istore (pc' := 20) dX9_within_18 (Nat.le_of_ble_eq_true rfl) rfl ?_
    refine loopU (fun j s => OkP G mX9_within 3 (rI (xGa (· &&& ·) A.1 x A.2) σ) 20 [some (.ref (adr G 0)), some (.int x), some (.int s), some (.int (nI i)), some (.int (nI j))] [] σ) (xGa1 (· &&& ·) A.1 x A.2 i) A.1 (i + 1) (A.1 - (i + 1)) s (by omega) ?_ ?_
    · intro j s h2 hj ih2
      refine k_iload (pc' := 22) dX9_within_20 rfl ?_
      refine k_aload_n (pc' := 23) dX9_within_22 rfl ?_
      refine p_get (pc' := 26) clX9 (Nat.le_of_ble_eq_true rfl) fl_RX9_12 dX9_within_23 (by first | assumption | decide | omega) (by assumption) rfl ?_
      refine p_get (pc' := 29) clX6 (Nat.le_of_ble_eq_true rfl) fl_RX9_87 dX9_within_26 (by first | assumption | decide | omega) (by assumption) rfl ?_
      refine k_icmp_ge (tgt := 62) (pc' := 32) dX9_within_29 rfl (fun zz_ => absurd zz_ (nI_ge (by omega) (by omega))) (fun _ => ?_)
      refine k_iload_n (pc' := 33) dX9_within_32 rfl ?_
      refine k_iload_n (pc' := 34) dX9_within_33 rfl ?_
      refine k_iload_n (pc' := 35) dX9_within_34 rfl ?_
      refine k_ishr (pc' := 36) dX9_within_35 rfl ?_
      refine k_iload_n (pc' := 37) dX9_within_36 rfl ?_
      refine k_iload (pc' := 39) dX9_within_37 rfl ?_
      refine k_ishr (pc' := 40) dX9_within_39 rfl ?_
      refine k_iand (pc' := 41) dX9_within_40 rfl ?_
      refine k_iconst (pc' := 42) (v := nI 1) dX9_within_41 rfl ?_
      refine k_iand (pc' := 43) dX9_within_42 rfl ?_
      refine k_aload_n (pc' := 44) dX9_within_43 rfl ?_
      refine p_get (pc' := 47) clX9 (Nat.le_of_ble_eq_true rfl) fl_RX9_12 dX9_within_44 (by first | assumption | decide | omega) (by assumption) rfl ?_
      refine k_iload_n (pc' := 48) dX9_within_47 rfl ?_
      refine k_iload (pc' := 50) dX9_within_48 rfl ?_
      refine p_vI (ν := mX6_between) (pc' := 53) dX9_within_50 ml_RX9_105 mo_X6_between mv_X6_between clX6 (Nat.le_of_ble_eq_true rfl) rfl rfl (Nat.le_of_ble_eq_true rfl) (by first | assumption | decide | omega) (by assumption) (by decide) (c_between x1 (by omega) (by omega)) ?_
      refine k_imul (pc' := 54) (v := (x >>> (nI i &&& 31) &&& x >>> (nI j &&& 31) &&& nI 1) * dT A.1 A.2 i j) dX9_within_53 rfl ?_
      refine k_iadd (pc' := 55) (v := s + (x >>> (nI i &&& 31) &&& x >>> (nI j &&& 31) &&& nI 1) * dT A.1 A.2 i j) dX9_within_54 rfl ?_
      refine k_istore_n (pc' := 56) dX9_within_55 (Nat.le_of_ble_eq_true rfl) rfl ?_
      refine k_iinc (pc' := 59) (v := nI (j + 1)) dX9_within_56 rfl (nI_inc _) (Nat.le_of_ble_eq_true rfl) rfl ?_
      refine k_goto (tgt := 20) dX9_within_59 rfl ?_
      exact ih2
    · refine k_iload (pc' := 22) dX9_within_20 rfl ?_
      refine k_aload_n (pc' := 23) dX9_within_22 rfl ?_
      refine p_get (pc' := 26) clX9 (Nat.le_of_ble_eq_true rfl) fl_RX9_12 dX9_within_23 (by first | assumption | decide | omega) (by assumption) rfl ?_
      refine p_get (pc' := 29) clX6 (Nat.le_of_ble_eq_true rfl) fl_RX9_87 dX9_within_26 (by first | assumption | decide | omega) (by assumption) rfl ?_
      refine k_icmp_ge (tgt := 62) (pc' := 32) dX9_within_29 rfl (fun _ => ?_) (fun zz_ => absurd (nI_le (by omega) (by omega)) zz_)
      refine k_iinc (pc' := 65) (v := nI (i + 1)) dX9_within_62 rfl (nI_inc _) (Nat.le_of_ble_eq_true rfl) rfl ?_
      refine k_goto (tgt := 4) dX9_within_65 rfl ?_
      exact ih _
  · intro y
    refine k_iload_n (pc' := 5) dX9_within_4 rfl ?_
    refine k_aload_n (pc' := 6) dX9_within_5 rfl ?_
    refine p_get (pc' := 9) clX9 (Nat.le_of_ble_eq_true rfl) fl_RX9_12 dX9_within_6 (by first | assumption | decide | omega) (by assumption) rfl ?_
    refine p_get (pc' := 12) clX6 (Nat.le_of_ble_eq_true rfl) fl_RX9_87 dX9_within_9 (by first | assumption | decide | omega) (by assumption) rfl ?_
    refine k_icmp_ge (tgt := 68) (pc' := 15) dX9_within_12 rfl (fun _ => ?_) (fun zz_ => absurd (nI_le (by omega) (by omega)) zz_)
    refine k_iload_n (pc' := 69) dX9_within_68 rfl ?_
    refine p_ireturn dX9_within_69 rfl ?_
    exact ⟨rfl, rfl⟩
theorem x_across (h : isX G σ A B C I H T) {x : Int32} : ConP G mX9_across 3 [.ref (adr G 0), .int x] σ (rI (xGa (· ^^^ ·) A.1 x A.2) σ) := by
  obtain ⟨x0, x1, -⟩ := h
  have e1 := x1.2.2.1
  have hN6 := x1.2.2.2.2.2
  refine ConP.of rfl (Nat.le_of_ble_eq_true rfl) ?_
  refine k_iconst (pc' := 1) (v := nI 0) dX9_across_0 rfl ?_
  refine k_istore_n (pc' := 2) dX9_across_1 (Nat.le_of_ble_eq_true rfl) rfl ?_
  refine k_iconst (pc' := 3) (v := nI 0) dX9_across_2 rfl ?_
  refine k_istore_n (pc' := 4) dX9_across_3 (Nat.le_of_ble_eq_true rfl) rfl ?_
  refine loopU (fun i s => ∀ y, OkP G mX9_across 3 (rI (xGa (· ^^^ ·) A.1 x A.2) σ) 4 [some (.ref (adr G 0)), some (.int x), some (.int s), some (.int (nI i)), y] [] σ) (xGa2 (· ^^^ ·) A.1 x A.2) A.1 0 A.1 (nI 0) (by omega) ?_ ?_ none
  · intro i s _ hi' ih y
    refine k_iload_n (pc' := 5) dX9_across_4 rfl ?_
    refine k_aload_n (pc' := 6) dX9_across_5 rfl ?_
    refine p_get (pc' := 9) clX9 (Nat.le_of_ble_eq_true rfl) fl_RX9_12 dX9_across_6 (by first | assumption | decide | omega) (by assumption) rfl ?_
    refine p_get (pc' := 12) clX6 (Nat.le_of_ble_eq_true rfl) fl_RX9_87 dX9_across_9 (by first | assumption | decide | omega) (by assumption) rfl ?_
    refine k_icmp_ge (tgt := 68) (pc' := 15) dX9_across_12 rfl (fun zz_ => absurd zz_ (nI_ge (by omega) (by omega))) (fun _ => ?_)
    refine k_iload_n (pc' := 16) dX9_across_15 rfl ?_
    refine k_iconst (pc' := 17) (v := nI 1) dX9_across_16 rfl ?_
    refine k_iadd (pc' := 18) dX9_across_17 (by first | exact nI_add _ _ | rfl) ?_
    refine k_istore (pc' := 20) dX9_across_18 (Nat.le_of_ble_eq_true rfl) rfl ?_
    refine loopU (fun j s => OkP G mX9_across 3 (rI (xGa (· ^^^ ·) A.1 x A.2) σ) 20 [some (.ref (adr G 0)), some (.int x), some (.int s), some (.int (nI i)), some (.int (nI j))] [] σ) (xGa1 (· ^^^ ·) A.1 x A.2 i) A.1 (i + 1) (A.1 - (i + 1)) s (by omega) ?_ ?_
    · intro j s h2 hj ih2
      refine k_iload (pc' := 22) dX9_across_20 rfl ?_
      refine k_aload_n (pc' := 23) dX9_across_22 rfl ?_
      refine p_get (pc' := 26) clX9 (Nat.le_of_ble_eq_true rfl) fl_RX9_12 dX9_across_23 (by first | assumption | decide | omega) (by assumption) rfl ?_
      refine p_get (pc' := 29) clX6 (Nat.le_of_ble_eq_true rfl) fl_RX9_87 dX9_across_26 (by first | assumption | decide | omega) (by assumption) rfl ?_
      refine k_icmp_ge (tgt := 62) (pc' := 32) dX9_across_29 rfl (fun zz_ => absurd zz_ (nI_ge (by omega) (by omega))) (fun _ => ?_)
      refine k_iload_n (pc' := 33) dX9_across_32 rfl ?_
      refine k_iload_n (pc' := 34) dX9_across_33 rfl ?_
      refine k_iload_n (pc' := 35) dX9_across_34 rfl ?_
      refine k_ishr (pc' := 36) dX9_across_35 rfl ?_
      refine k_iload_n (pc' := 37) dX9_across_36 rfl ?_
      refine k_iload (pc' := 39) dX9_across_37 rfl ?_
      refine k_ishr (pc' := 40) dX9_across_39 rfl ?_
      refine k_ixor (pc' := 41) dX9_across_40 rfl ?_
      refine k_iconst (pc' := 42) (v := nI 1) dX9_across_41 rfl ?_
      refine k_iand (pc' := 43) dX9_across_42 rfl ?_
      refine k_aload_n (pc' := 44) dX9_across_43 rfl ?_
      refine p_get (pc' := 47) clX9 (Nat.le_of_ble_eq_true rfl) fl_RX9_12 dX9_across_44 (by first | assumption | decide | omega) (by assumption) rfl ?_
      refine k_iload_n (pc' := 48) dX9_across_47 rfl ?_
      refine k_iload (pc' := 50) dX9_across_48 rfl ?_
      refine p_vI (ν := mX6_between) (pc' := 53) dX9_across_50 ml_RX9_105 mo_X6_between mv_X6_between clX6 (Nat.le_of_ble_eq_true rfl) rfl rfl (Nat.le_of_ble_eq_true rfl) (by first | assumption | decide | omega) (by assumption) (by decide) (c_between x1 (by omega) (by omega)) ?_
      refine k_imul (pc' := 54) (v := ((x >>> (nI i &&& 31) ^^^ x >>> (nI j &&& 31)) &&& nI 1) * dT A.1 A.2 i j) dX9_across_53 rfl ?_
      refine k_iadd (pc' := 55) (v := s + ((x >>> (nI i &&& 31) ^^^ x >>> (nI j &&& 31)) &&& nI 1) * dT A.1 A.2 i j) dX9_across_54 rfl ?_
      refine k_istore_n (pc' := 56) dX9_across_55 (Nat.le_of_ble_eq_true rfl) rfl ?_
      refine k_iinc (pc' := 59) (v := nI (j + 1)) dX9_across_56 rfl (nI_inc _) (Nat.le_of_ble_eq_true rfl) rfl ?_
      refine k_goto (tgt := 20) dX9_across_59 rfl ?_
      exact ih2
    · refine k_iload (pc' := 22) dX9_across_20 rfl ?_
      refine k_aload_n (pc' := 23) dX9_across_22 rfl ?_
      refine p_get (pc' := 26) clX9 (Nat.le_of_ble_eq_true rfl) fl_RX9_12 dX9_across_23 (by first | assumption | decide | omega) (by assumption) rfl ?_
      refine p_get (pc' := 29) clX6 (Nat.le_of_ble_eq_true rfl) fl_RX9_87 dX9_across_26 (by first | assumption | decide | omega) (by assumption) rfl ?_
      refine k_icmp_ge (tgt := 62) (pc' := 32) dX9_across_29 rfl (fun _ => ?_) (fun zz_ => absurd (nI_le (by omega) (by omega)) zz_)
      refine k_iinc (pc' := 65) (v := nI (i + 1)) dX9_across_62 rfl (nI_inc _) (Nat.le_of_ble_eq_true rfl) rfl ?_
      refine k_goto (tgt := 4) dX9_across_65 rfl ?_
      exact ih _
  · intro y
    refine k_iload_n (pc' := 5) dX9_across_4 rfl ?_
    refine k_aload_n (pc' := 6) dX9_across_5 rfl ?_
    refine p_get (pc' := 9) clX9 (Nat.le_of_ble_eq_true rfl) fl_RX9_12 dX9_across_6 (by first | assumption | decide | omega) (by assumption) rfl ?_
    refine p_get (pc' := 12) clX6 (Nat.le_of_ble_eq_true rfl) fl_RX9_87 dX9_across_9 (by first | assumption | decide | omega) (by assumption) rfl ?_
    refine k_icmp_ge (tgt := 68) (pc' := 15) dX9_across_12 rfl (fun _ => ?_) (fun zz_ => absurd (nI_le (by omega) (by omega)) zz_)
    refine k_iload_n (pc' := 69) dX9_across_68 rfl ?_
    refine p_ireturn dX9_across_69 rfl ?_
    exact ⟨rfl, rfl⟩
theorem x_longest (h : isX G σ A B C I H T) {x : Int32} : ConP G mX9_longest 3 [.ref (adr G 0), .int x] σ (rI (xMx A.1 x A.2) σ) := by
  obtain ⟨x0, x1, -⟩ := h
  have e1 := x1.2.2.1
  have hN6 := x1.2.2.2.2.2
  refine ConP.of rfl (Nat.le_of_ble_eq_true rfl) ?_
  refine k_iconst (pc' := 1) (v := nI 0) dX9_longest_0 rfl ?_
  refine k_istore_n (pc' := 2) dX9_longest_1 (Nat.le_of_ble_eq_true rfl) rfl ?_
  refine k_iconst (pc' := 3) (v := nI 0) dX9_longest_2 rfl ?_
  refine k_istore_n (pc' := 4) dX9_longest_3 (Nat.le_of_ble_eq_true rfl) rfl ?_
  refine loopU (fun i s => ∀ y, OkP G mX9_longest 3 (rI (xMx A.1 x A.2) σ) 4 [some (.ref (adr G 0)), some (.int x), some (.int s), some (.int (nI i)), y] [] σ) (xMx2 A.1 x A.2) A.1 0 A.1 (nI 0) (by omega) ?_ ?_ none
  · intro i s _ hi' ih y
    refine k_iload_n (pc' := 5) dX9_longest_4 rfl ?_
    refine k_aload_n (pc' := 6) dX9_longest_5 rfl ?_
    refine p_get (pc' := 9) clX9 (Nat.le_of_ble_eq_true rfl) fl_RX9_12 dX9_longest_6 (by first | assumption | decide | omega) (by assumption) rfl ?_
    refine p_get (pc' := 12) clX6 (Nat.le_of_ble_eq_true rfl) fl_RX9_87 dX9_longest_9 (by first | assumption | decide | omega) (by assumption) rfl ?_
    refine k_icmp_ge (tgt := 70) (pc' := 15) dX9_longest_12 rfl (fun zz_ => absurd zz_ (nI_ge (by omega) (by omega))) (fun _ => ?_)
    refine k_iload_n (pc' := 16) dX9_longest_15 rfl ?_
    refine k_iconst (pc' := 17) (v := nI 1) dX9_longest_16 rfl ?_
    refine k_iadd (pc' := 18) dX9_longest_17 (by first | exact nI_add _ _ | rfl) ?_
    refine k_istore (pc' := 20) dX9_longest_18 (Nat.le_of_ble_eq_true rfl) rfl ?_
    refine loopU (fun j s => OkP G mX9_longest 3 (rI (xMx A.1 x A.2) σ) 20 [some (.ref (adr G 0)), some (.int x), some (.int s), some (.int (nI i)), some (.int (nI j))] [] σ) (xMx1 A.1 x A.2 i) A.1 (i + 1) (A.1 - (i + 1)) s (by omega) ?_ ?_
    · intro j s h2 hj ih2
      refine k_iload (pc' := 22) dX9_longest_20 rfl ?_
      refine k_aload_n (pc' := 23) dX9_longest_22 rfl ?_
      refine p_get (pc' := 26) clX9 (Nat.le_of_ble_eq_true rfl) fl_RX9_12 dX9_longest_23 (by first | assumption | decide | omega) (by assumption) rfl ?_
      refine p_get (pc' := 29) clX6 (Nat.le_of_ble_eq_true rfl) fl_RX9_87 dX9_longest_26 (by first | assumption | decide | omega) (by assumption) rfl ?_
      refine k_icmp_ge (tgt := 64) (pc' := 32) dX9_longest_29 rfl (fun zz_ => absurd zz_ (nI_ge (by omega) (by omega))) (fun _ => ?_)
      refine k_iload_n (pc' := 33) dX9_longest_32 rfl ?_
      refine k_iload_n (pc' := 34) dX9_longest_33 rfl ?_
      refine k_iload_n (pc' := 35) dX9_longest_34 rfl ?_
      refine k_ishr (pc' := 36) dX9_longest_35 rfl ?_
      refine k_iload_n (pc' := 37) dX9_longest_36 rfl ?_
      refine k_iload (pc' := 39) dX9_longest_37 rfl ?_
      refine k_ishr (pc' := 40) dX9_longest_39 rfl ?_
      refine k_iand (pc' := 41) dX9_longest_40 rfl ?_
      refine k_iconst (pc' := 42) (v := nI 1) dX9_longest_41 rfl ?_
      refine k_iand (pc' := 43) dX9_longest_42 rfl ?_
      refine k_aload_n (pc' := 44) dX9_longest_43 rfl ?_
      refine p_get (pc' := 47) clX9 (Nat.le_of_ble_eq_true rfl) fl_RX9_12 dX9_longest_44 (by first | assumption | decide | omega) (by assumption) rfl ?_
      refine k_iload_n (pc' := 48) dX9_longest_47 rfl ?_
      refine k_iload (pc' := 50) dX9_longest_48 rfl ?_
      refine p_vI (ν := mX6_between) (pc' := 53) dX9_longest_50 ml_RX9_105 mo_X6_between mv_X6_between clX6 (Nat.le_of_ble_eq_true rfl) rfl rfl (Nat.le_of_ble_eq_true rfl) (by first | assumption | decide | omega) (by assumption) (by decide) (c_between x1 (by omega) (by omega)) ?_
      refine k_imul (pc' := 54) (v := (x >>> (nI i &&& 31) &&& x >>> (nI j &&& 31) &&& nI 1) * dT A.1 A.2 i j) dX9_longest_53 rfl ?_
      refine p_max (pc' := 57) (v := xMx1 A.1 x A.2 i j s) dX9_longest_54 ml_RX9_278 (by decide) (Nat.le_of_ble_eq_true rfl) rfl ?_
      refine k_istore_n (pc' := 58) dX9_longest_57 (Nat.le_of_ble_eq_true rfl) rfl ?_
      refine k_iinc (pc' := 61) (v := nI (j + 1)) dX9_longest_58 rfl (nI_inc _) (Nat.le_of_ble_eq_true rfl) rfl ?_
      refine k_goto (tgt := 20) dX9_longest_61 rfl ?_
      exact ih2
    · refine k_iload (pc' := 22) dX9_longest_20 rfl ?_
      refine k_aload_n (pc' := 23) dX9_longest_22 rfl ?_
      refine p_get (pc' := 26) clX9 (Nat.le_of_ble_eq_true rfl) fl_RX9_12 dX9_longest_23 (by first | assumption | decide | omega) (by assumption) rfl ?_
      refine p_get (pc' := 29) clX6 (Nat.le_of_ble_eq_true rfl) fl_RX9_87 dX9_longest_26 (by first | assumption | decide | omega) (by assumption) rfl ?_
      refine k_icmp_ge (tgt := 64) (pc' := 32) dX9_longest_29 rfl (fun _ => ?_) (fun zz_ => absurd (nI_le (by omega) (by omega)) zz_)
      refine k_iinc (pc' := 67) (v := nI (i + 1)) dX9_longest_64 rfl (nI_inc _) (Nat.le_of_ble_eq_true rfl) rfl ?_
      refine k_goto (tgt := 4) dX9_longest_67 rfl ?_
      exact ih _
  · intro y
    refine k_iload_n (pc' := 5) dX9_longest_4 rfl ?_
    refine k_aload_n (pc' := 6) dX9_longest_5 rfl ?_
    refine p_get (pc' := 9) clX9 (Nat.le_of_ble_eq_true rfl) fl_RX9_12 dX9_longest_6 (by first | assumption | decide | omega) (by assumption) rfl ?_
    refine p_get (pc' := 12) clX6 (Nat.le_of_ble_eq_true rfl) fl_RX9_87 dX9_longest_9 (by first | assumption | decide | omega) (by assumption) rfl ?_
    refine k_icmp_ge (tgt := 70) (pc' := 15) dX9_longest_12 rfl (fun _ => ?_) (fun zz_ => absurd (nI_le (by omega) (by omega)) zz_)
    refine k_iload_n (pc' := 71) dX9_longest_70 rfl ?_
    refine p_ireturn dX9_longest_71 rfl ?_
    exact ⟨rfl, rfl⟩
theorem x_doubled (h : isX G σ A B C I H T) {x : Int32} : ConP G mX9_doubled 4 [.ref (adr G 0), .int x] σ (rI (nI 2 * xGa (· &&& ·) A.1 x A.2) σ) := by
  have x0 := h.1
  refine ConP.of rfl (Nat.le_of_ble_eq_true rfl) ?_
  refine k_iconst (pc' := 1) (v := nI 2) dX9_doubled_0 rfl ?_
  refine k_aload_n (pc' := 2) dX9_doubled_1 rfl ?_
  refine k_iload_n (pc' := 3) dX9_doubled_2 rfl ?_
  refine p_vI (ν := mX9_within) (pc' := 6) dX9_doubled_3 ml_RX9_266 mo_X9_within mv_X9_within clX9 (Nat.le_of_ble_eq_true rfl) rfl rfl (Nat.le_of_ble_eq_true rfl) (by first | assumption | decide | omega) (by assumption) (by decide) (x_within h) ?_
  refine k_imul (pc' := 7) (v := nI 2 * xGa (· &&& ·) A.1 x A.2) dX9_doubled_6 rfl ?_
  refine p_ireturn dX9_doubled_7 rfl ?_
  exact ⟨rfl, rfl⟩
theorem sh_N : ∀ N, N < 7 → nI 1 <<< (nI N &&& 31) = nI (2 ^ N) ∧ 2 ^ N ≤ 64 := by decide +kernel
theorem x_gauge (h : isX G σ A B C I H T) {x y : Int32} : ConP G mX9_gauge 5 [.ref (adr G 0), .int x, .int y] σ (rL (if (0 ≤ x.toInt ∧ x.toInt ≤ 4) ∧ (0 ≤ y.toInt ∧ y.toInt < (2 ^ A.1 : Nat)) then (if x = 0 then xGa (· &&& ·) A.1 y A.2 else if x = 1 then nI 2 * xGa (· &&& ·) A.1 y A.2 else if x = 2 then xGa (· ^^^ ·) A.1 y A.2 - nI 2 * xGa (· &&& ·) A.1 y A.2 else if x = 3 then xMx A.1 y A.2 else xGa (· &&& ·) A.1 y A.2 - xMx A.1 y A.2).toInt64 else -9223372036854775808) σ) := by
  have hX := h
  obtain ⟨x0, x1, -⟩ := h
  have e1 := x1.2.2.1
  have hN6 := x1.2.2.2.2.2
  have hsh := sh_N A.1 (by omega)
  have h64 := hsh.2
  refine ConP.of rfl (Nat.le_of_ble_eq_true rfl) ?_
  refine k_iload_n (pc' := 1) dX9_gauge_0 rfl ?_
  refine k_if_lt (tgt := 26) (pc' := 4) dX9_gauge_1 rfl (fun c_1 => ?_) (fun c_1 => ?_)
  · rw [iLt, i0] at c_1
    refine k_ldc2 (pc' := 29)  dX9_gauge_26 cl_RX9_228 ?_
    refine p_lreturn dX9_gauge_29 rfl ?_
    exact ⟨by rw [if_neg (by omega)], rfl⟩
  rw [iLt, i0] at c_1
  refine k_iload_n (pc' := 5) dX9_gauge_4 rfl ?_
  refine k_iconst (pc' := 6) (v := nI 4) dX9_gauge_5 rfl ?_
  refine k_icmp_gt (tgt := 26) (pc' := 9) dX9_gauge_6 rfl (fun c_6 => ?_) (fun c_6 => ?_)
  · rw [iLt, nI_e (by decide)] at c_6
    refine k_ldc2 (pc' := 29)  dX9_gauge_26 cl_RX9_228 ?_
    refine p_lreturn dX9_gauge_29 rfl ?_
    exact ⟨by rw [if_neg (by omega)], rfl⟩
  rw [iLt, nI_e (by decide)] at c_6
  refine k_iload_n (pc' := 10) dX9_gauge_9 rfl ?_
  refine k_if_lt (tgt := 26) (pc' := 13) dX9_gauge_10 rfl (fun c_10 => ?_) (fun c_10 => ?_)
  · rw [iLt, i0] at c_10
    refine k_ldc2 (pc' := 29)  dX9_gauge_26 cl_RX9_228 ?_
    refine p_lreturn dX9_gauge_29 rfl ?_
    exact ⟨by rw [if_neg (by omega)], rfl⟩
  rw [iLt, i0] at c_10
  refine k_iload_n (pc' := 14) dX9_gauge_13 rfl ?_
  refine k_iconst (pc' := 15) (v := nI 1) dX9_gauge_14 rfl ?_
  refine k_aload_n (pc' := 16) dX9_gauge_15 rfl ?_
  refine p_get (pc' := 19) clX9 (Nat.le_of_ble_eq_true rfl) fl_RX9_12 dX9_gauge_16 (by first | assumption | decide | omega) (by assumption) rfl ?_
  refine p_get (pc' := 22) clX6 (Nat.le_of_ble_eq_true rfl) fl_RX9_87 dX9_gauge_19 (by first | assumption | decide | omega) (by assumption) rfl ?_
  refine k_ishl (pc' := 23) (v := nI (2 ^ A.1)) dX9_gauge_22 hsh.1 ?_
  refine k_icmp_lt (tgt := 30) (pc' := 26) dX9_gauge_23 rfl (fun c_23 => ?_) (fun c_23 => ?_)
  rotate_left
  · rw [iLt, nI_e (by omega)] at c_23
    refine k_ldc2 (pc' := 29)  dX9_gauge_26 cl_RX9_228 ?_
    refine p_lreturn dX9_gauge_29 rfl ?_
    exact ⟨by rw [if_neg (by omega)], rfl⟩
  rw [iLt, nI_e (by omega)] at c_23
  rw [if_pos (⟨⟨by omega, by omega⟩, by omega, by omega⟩ : (0 ≤ x.toInt ∧ x.toInt ≤ 4) ∧ (0 ≤ y.toInt ∧ y.toInt < (2 ^ A.1 : Nat)))]
  obtain ⟨k, hk, rfl⟩ := nI_in0 (n := 5) (x := x) (by omega) (by omega) (by decide)
  have hk' : k = 0 ∨ k = 1 ∨ k = 2 ∨ k = 3 ∨ k = 4 := by omega
  rcases hk' with rfl | rfl | rfl | rfl | rfl
  · refine k_iload_n (pc' := 31) dX9_gauge_30 rfl ?_
    refine k_tswIn (tgt := 60) dX9_gauge_31 (by decide) (by decide) rfl rfl ?_
    refine k_aload_n (pc' := 61) dX9_gauge_60 rfl ?_
    refine k_iload_n (pc' := 62) dX9_gauge_61 rfl ?_
    refine p_vI (ν := mX9_within) (pc' := 65) dX9_gauge_62 ml_RX9_266 mo_X9_within mv_X9_within clX9 (Nat.le_of_ble_eq_true rfl) rfl rfl (Nat.le_of_ble_eq_true rfl) (by first | assumption | decide | omega) (by assumption) (by decide) (x_within hX) ?_
    refine k_i2l (pc' := 66) dX9_gauge_65 rfl ?_
    refine p_lreturn dX9_gauge_66 rfl ?_
    exact ⟨rfl, rfl⟩
  · refine k_iload_n (pc' := 31) dX9_gauge_30 rfl ?_
    refine k_tswIn (tgt := 67) dX9_gauge_31 (by decide) (by decide) rfl rfl ?_
    refine k_aload_n (pc' := 68) dX9_gauge_67 rfl ?_
    refine k_iload_n (pc' := 69) dX9_gauge_68 rfl ?_
    refine p_vI (ν := mX9_doubled) (pc' := 72) dX9_gauge_69 ml_RX9_269 mo_X9_doubled mv_X9_doubled clX9 (Nat.le_of_ble_eq_true rfl) rfl rfl (Nat.le_of_ble_eq_true rfl) (by first | assumption | decide | omega) (by assumption) (by decide) (x_doubled hX) ?_
    refine k_i2l (pc' := 73) dX9_gauge_72 rfl ?_
    refine p_lreturn dX9_gauge_73 rfl ?_
    exact ⟨rfl, rfl⟩
  · refine k_iload_n (pc' := 31) dX9_gauge_30 rfl ?_
    refine k_tswIn (tgt := 74) dX9_gauge_31 (by decide) (by decide) rfl rfl ?_
    refine k_aload_n (pc' := 75) dX9_gauge_74 rfl ?_
    refine k_iload_n (pc' := 76) dX9_gauge_75 rfl ?_
    refine p_vI (ν := mX9_across) (pc' := 79) dX9_gauge_76 ml_RX9_272 mo_X9_across mv_X9_across clX9 (Nat.le_of_ble_eq_true rfl) rfl rfl (Nat.le_of_ble_eq_true rfl) (by first | assumption | decide | omega) (by assumption) (by decide) (x_across hX) ?_
    refine k_aload_n (pc' := 80) dX9_gauge_79 rfl ?_
    refine k_iload_n (pc' := 81) dX9_gauge_80 rfl ?_
    refine p_vI (ν := mX9_doubled) (pc' := 84) dX9_gauge_81 ml_RX9_269 mo_X9_doubled mv_X9_doubled clX9 (Nat.le_of_ble_eq_true rfl) rfl rfl (Nat.le_of_ble_eq_true rfl) (by first | assumption | decide | omega) (by assumption) (by decide) (x_doubled hX) ?_
    refine k_isub (pc' := 85) (v := xGa (· ^^^ ·) A.1 y A.2 - nI 2 * xGa (· &&& ·) A.1 y A.2) dX9_gauge_84 rfl ?_
    refine k_i2l (pc' := 86) dX9_gauge_85 rfl ?_
    refine p_lreturn dX9_gauge_86 rfl ?_
    exact ⟨rfl, rfl⟩
  · refine k_iload_n (pc' := 31) dX9_gauge_30 rfl ?_
    refine k_tswIn (tgt := 87) dX9_gauge_31 (by decide) (by decide) rfl rfl ?_
    refine k_aload_n (pc' := 88) dX9_gauge_87 rfl ?_
    refine k_iload_n (pc' := 89) dX9_gauge_88 rfl ?_
    refine p_vI (ν := mX9_longest) (pc' := 92) dX9_gauge_89 ml_RX9_275 mo_X9_longest mv_X9_longest clX9 (Nat.le_of_ble_eq_true rfl) rfl rfl (Nat.le_of_ble_eq_true rfl) (by first | assumption | decide | omega) (by assumption) (by decide) (x_longest hX) ?_
    refine k_i2l (pc' := 93) dX9_gauge_92 rfl ?_
    refine p_lreturn dX9_gauge_93 rfl ?_
    exact ⟨rfl, rfl⟩
  · refine k_iload_n (pc' := 31) dX9_gauge_30 rfl ?_
    refine k_tswOut (tgt := 94) dX9_gauge_31 (by decide) rfl ?_
    refine k_aload_n (pc' := 95) dX9_gauge_94 rfl ?_
    refine k_iload_n (pc' := 96) dX9_gauge_95 rfl ?_
    refine p_vI (ν := mX9_within) (pc' := 99) dX9_gauge_96 ml_RX9_266 mo_X9_within mv_X9_within clX9 (Nat.le_of_ble_eq_true rfl) rfl rfl (Nat.le_of_ble_eq_true rfl) (by first | assumption | decide | omega) (by assumption) (by decide) (x_within hX) ?_
    refine k_aload_n (pc' := 100) dX9_gauge_99 rfl ?_
    refine k_iload_n (pc' := 101) dX9_gauge_100 rfl ?_
    refine p_vI (ν := mX9_longest) (pc' := 104) dX9_gauge_101 ml_RX9_275 mo_X9_longest mv_X9_longest clX9 (Nat.le_of_ble_eq_true rfl) rfl rfl (Nat.le_of_ble_eq_true rfl) (by first | assumption | decide | omega) (by assumption) (by decide) (x_longest hX) ?_
    refine k_isub (pc' := 105) (v := xGa (· &&& ·) A.1 y A.2 - xMx A.1 y A.2) dX9_gauge_104 rfl ?_
    refine k_i2l (pc' := 106) dX9_gauge_105 rfl ?_
    refine p_lreturn dX9_gauge_106 rfl ?_
    exact ⟨rfl, rfl⟩
theorem x_count (h : isX G σ A B C I H T) {x : Int32} : ConP G mX9_count 3 [.ref (adr G 0), .int x] σ (rI (if x = 0 then nI A.1 else if x = 1 then nI (pN A.1) else if x = 2 then tot A.1 A.2 else if x = 3 then nI C.2.1 else if x = 4 then nI T.1 else -1) σ) := by
  have hX := h
  obtain ⟨x0, x1, -, -, x8, -, -, -, -, ⟨sp, xt⟩, -⟩ := h
  have e1 := x1.2.2.1
  have e8 := x8.1
  have e44 : σ 44 = _ := (congrFun xt 44).symm.trans pT44
  refine ConP.of rfl (Nat.le_of_ble_eq_true rfl) ?_
  by_cases hx : 0 ≤ x.toInt ∧ x.toInt < 5
  · obtain ⟨k, hk, rfl⟩ := nI_in0 (n := 5) (x := x) (by omega) (by omega) (by decide)
    have hk' : k = 0 ∨ k = 1 ∨ k = 2 ∨ k = 3 ∨ k = 4 := by omega
    rcases hk' with rfl | rfl | rfl | rfl | rfl
    · refine k_iload_n (pc' := 1) dX9_count_0 rfl ?_
      refine k_tswIn (tgt := 36) dX9_count_1 (by decide) (by decide) rfl rfl ?_
      refine k_aload_n (pc' := 37) dX9_count_36 rfl ?_
      refine p_get (pc' := 40) clX9 (Nat.le_of_ble_eq_true rfl) fl_RX9_12 dX9_count_37 (by first | assumption | decide | omega) (by assumption) rfl ?_
      refine p_get (pc' := 43) clX6 (Nat.le_of_ble_eq_true rfl) fl_RX9_87 dX9_count_40 (by first | assumption | decide | omega) (by assumption) rfl ?_
      refine p_ireturn dX9_count_43 rfl ?_
      exact ⟨rfl, rfl⟩
    · refine k_iload_n (pc' := 1) dX9_count_0 rfl ?_
      refine k_tswIn (tgt := 44) dX9_count_1 (by decide) (by decide) rfl rfl ?_
      refine k_aload_n (pc' := 45) dX9_count_44 rfl ?_
      refine p_get (pc' := 48) clX9 (Nat.le_of_ble_eq_true rfl) fl_RX9_12 dX9_count_45 (by first | assumption | decide | omega) (by assumption) rfl ?_
      refine p_vI (ν := mX6_pairCount) (pc' := 51) dX9_count_48 ml_RX9_132 mo_X6_pairCount mv_X6_pairCount clX6 (Nat.le_of_ble_eq_true rfl) rfl rfl (Nat.le_of_ble_eq_true rfl) (by first | assumption | decide | omega) (by assumption) (by decide) (c_pairCount x1) ?_
      refine p_ireturn dX9_count_51 rfl ?_
      exact ⟨rfl, rfl⟩
    · refine k_iload_n (pc' := 1) dX9_count_0 rfl ?_
      refine k_tswIn (tgt := 52) dX9_count_1 (by decide) (by decide) rfl rfl ?_
      refine k_aload_n (pc' := 53) dX9_count_52 rfl ?_
      refine p_get (pc' := 56) clX9 (Nat.le_of_ble_eq_true rfl) fl_RX9_12 dX9_count_53 (by first | assumption | decide | omega) (by assumption) rfl ?_
      refine p_vI (ν := mX6_total) (pc' := 59) dX9_count_56 ml_RX9_170 mo_X6_total mv_X6_total clX6 (Nat.le_of_ble_eq_true rfl) rfl rfl (Nat.le_of_ble_eq_true rfl) (by first | assumption | decide | omega) (by assumption) (by decide) (c_total x1) ?_
      refine p_ireturn dX9_count_59 rfl ?_
      exact ⟨rfl, rfl⟩
    · refine k_iload_n (pc' := 1) dX9_count_0 rfl ?_
      refine k_tswIn (tgt := 60) dX9_count_1 (by decide) (by decide) rfl rfl ?_
      refine k_aload_n (pc' := 61) dX9_count_60 rfl ?_
      refine p_get (pc' := 64) clX9 (Nat.le_of_ble_eq_true rfl) fl_RX9_31 dX9_count_61 (by first | assumption | decide | omega) (by assumption) rfl ?_
      refine p_get (pc' := 67) clX0 (Nat.le_of_ble_eq_true rfl) fl_RX9_153 dX9_count_64 (by first | assumption | decide | omega) (by assumption) rfl ?_
      refine p_ireturn dX9_count_67 rfl ?_
      exact ⟨rfl, rfl⟩
    · refine k_iload_n (pc' := 1) dX9_count_0 rfl ?_
      refine k_tswIn (tgt := 68) dX9_count_1 (by decide) (by decide) rfl rfl ?_
      refine k_aload_n (pc' := 69) dX9_count_68 rfl ?_
      refine p_get (pc' := 72) clX9 (Nat.le_of_ble_eq_true rfl) fl_RX9_54 dX9_count_69 (by first | assumption | decide | omega) (by assumption) rfl ?_
      refine p_get (pc' := 75) clX7 (Nat.le_of_ble_eq_true rfl) fl_RX9_283 dX9_count_72 (by first | assumption | decide | omega) e44 rfl ?_
      refine p_ireturn dX9_count_75 rfl ?_
      exact ⟨rfl, rfl⟩
  · refine k_iload_n (pc' := 1) dX9_count_0 rfl ?_
    refine k_tswOut (tgt := 76) dX9_count_1 (by omega) rfl ?_
    refine k_iconst (pc' := 77) (v := -1) dX9_count_76 rfl ?_
    refine p_ireturn dX9_count_77 rfl ?_
    refine ⟨?_, rfl⟩
    rw [if_neg (fun q => by subst q; exact hx (by decide)), if_neg (fun q => by subst q; exact hx (by decide)), if_neg (fun q => by subst q; exact hx (by decide)), if_neg (fun q => by subst q; exact hx (by decide)), if_neg (fun q => by subst q; exact hx (by decide))]
end X10
