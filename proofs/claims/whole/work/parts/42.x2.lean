section X2
variable {G : GT} {σ σ' : Sto} {A : XA} {B : XB} {C : XC} {I : XI} {H : XH} {T : XT}
/-- the next table alone is another -/
theorem isX.next {M : Nat} {g : Nat → Int32} (h : isX G σ A B C I H T) (h2 : 2 ≤ M) (h6 : M ≤ 6) : isX G (putT G σ 3 M g) A B C I H T ∧ isT G (putT G σ 3 M g) 3 M g := by
  obtain ⟨M0, g0, h3⟩ := h.2.2.1
  have h4 := putT_T (f := g) h3 h2 h6
  exact ⟨h.scr (fun q _ a b => putT_n a b) ⟨M, g, h4⟩ (h.2.2.2.2.2.2.2.2.2.2.loc (fun q a b => putT_n (by omega) (by omega))), h4⟩
theorem hi_next {M : Nat} {g : Nat → Int32} : hi σ (putT G σ 3 M g) := fun q hq => putT_n (by omega) (by omega)
theorem hi.trans {σ2 : Sto} (h : hi σ σ') (h2 : hi σ' σ2) : hi σ σ2 := fun q hq => (h2 q hq).trans (h q hq)
theorem hi.rfl' : hi σ σ := fun _ _ => rfl
theorem x_points (h : isX G σ A B C I H T) {x : Int32} : ConP G mX9_points 3 [.ref (adr G 0), .int x] σ (fun v σ' => (¬ (2 ≤ x.toInt ∧ x.toInt ≤ 6) ∧ xI G σ (-1) A B C I H T v σ') ∨ ∃ P, x = nI P ∧ 2 ≤ P ∧ P ≤ 6 ∧ xI G σ (nI A.1) (P, zf 15 A.2) (clF 0 6 B.1, clF 0 6 B.2) (C.1, 0, C.2.2.1, C.2.2.2) I H T v σ') := by
  have hX := h
  obtain ⟨x0, x1, ⟨M0, g0, x3⟩, x5, x8, -⟩ := h
  refine ConP.of rfl (Nat.le_of_ble_eq_true rfl) ?_
  refine k_iload_n (pc' := 1) dX9_points_0 rfl ?_
  refine k_iconst (pc' := 2) (v := nI 2) dX9_points_1 rfl ?_
  refine k_icmp_lt (tgt := 11) (pc' := 5) dX9_points_2 rfl (fun c_2 => ?_) (fun c_2 => ?_)
  · rw [iLt, nI_e (by decide)] at c_2
    refine k_iconst (pc' := 12) (v := -1) dX9_points_11 rfl ?_
    refine p_ireturn dX9_points_12 rfl ?_
    exact Or.inl ⟨by omega, rfl, hX, hi.rfl'⟩
  rw [iLt, nI_e (by decide)] at c_2
  refine k_iload_n (pc' := 6) dX9_points_5 rfl ?_
  refine k_bipush (pc' := 8) (v := nI 6) dX9_points_6 rfl ?_
  refine k_icmp_le (tgt := 13) (pc' := 11) dX9_points_8 rfl (fun c_8 => ?_) (fun c_8 => ?_)
  rotate_left
  · rw [iLe, nI_e (by decide)] at c_8
    refine k_iconst (pc' := 12) (v := -1) dX9_points_11 rfl ?_
    refine p_ireturn dX9_points_12 rfl ?_
    exact Or.inl ⟨by omega, rfl, hX, hi.rfl'⟩
  rw [iLe, nI_e (by decide)] at c_8
  obtain ⟨P, hP, rfl⟩ := nI_in0 (n := 7) (x := x) (by omega) (by omega) (by decide)
  rw [nI_e (by omega)] at c_2 c_8
  have e1 := x1.2.2.1
  refine k_aload_n (pc' := 14) dX9_points_13 rfl ?_
  refine p_get (pc' := 17) clX9 (Nat.le_of_ble_eq_true rfl) fl_RX9_12 dX9_points_14 (by first | assumption | decide | omega) (by assumption) rfl ?_
  refine p_get (pc' := 20) clX6 (Nat.le_of_ble_eq_true rfl) fl_RX9_87 dX9_points_17 (by first | assumption | decide | omega) (by assumption) rfl ?_
  refine k_istore_n (pc' := 21) dX9_points_20 (Nat.le_of_ble_eq_true rfl) rfl ?_
  refine k_aload_n (pc' := 22) dX9_points_21 rfl ?_
  refine p_get (pc' := 25) clX9 (Nat.le_of_ble_eq_true rfl) fl_RX9_12 dX9_points_22 (by first | assumption | decide | omega) (by assumption) rfl ?_
  refine k_iload_n (pc' := 26) dX9_points_25 rfl ?_
  refine p_vV (ν := mX6_clearTo) (pc' := 29) dX9_points_26 ml_RX9_91 mo_X6_clearTo mv_X6_clearTo clX6 (Nat.le_of_ble_eq_true rfl) rfl rfl (Nat.le_of_ble_eq_true rfl) (by first | assumption | decide | omega) (by assumption) (by decide) (c_clearTo x1 (by omega) (by omega)) ?_
  have y0 : putT G σ 1 P (zf 15 A.2) 0 = _ := (putT_n (by decide) (by decide)).trans x0
  have y5 : isPl G (putT G σ 1 P (zf 15 A.2)) 5 B.1 B.2 := x5.loc (putT_n (by decide) (by decide)) (putT_n (by decide) (by decide)) (putT_n (by decide) (by decide))
  have e5 := y5.2.1
  refine k_aload_n (pc' := 30) dX9_points_29 rfl ?_
  refine p_get (pc' := 33) clX9 (Nat.le_of_ble_eq_true rfl) fl_RX9_24 dX9_points_30 (by first | assumption | decide | omega) (by assumption) rfl ?_
  refine k_iconst (pc' := 34) (v := nI 0) dX9_points_33 rfl ?_
  refine p_vV (ν := mX2_clearFrom) (pc' := 37) dX9_points_34 ml_RX9_95 mo_X2_clearFrom mv_X2_clearFrom clX2 (Nat.le_of_ble_eq_true rfl) rfl rfl (Nat.le_of_ble_eq_true rfl) (by first | assumption | decide | omega) (by assumption) (by decide) (c_clearFrom (k := 0) y5 (by decide)) ?_
  have z0 : putP G (putT G σ 1 P (zf 15 A.2)) 5 (clF 0 6 B.1) (clF 0 6 B.2) 0 = _ := (putP_n (by decide) (by decide)).trans y0
  have z8 : isDe G (putP G (putT G σ 1 P (zf 15 A.2)) 5 (clF 0 6 B.1) (clF 0 6 B.2)) C.1 C.2.1 C.2.2.1 C.2.2.2 := x8.loc (fun q a b => (putP_n (by omega) (by omega)).trans (putT_n (by omega) (by omega)))
  have e8 := z8.1
  refine k_aload_n (pc' := 38) dX9_points_37 rfl ?_
  refine p_get (pc' := 41) clX9 (Nat.le_of_ble_eq_true rfl) fl_RX9_31 dX9_points_38 (by first | assumption | decide | omega) (by assumption) rfl ?_
  refine p_vV (ν := mX0_forget) (pc' := 44) dX9_points_41 ml_RX9_98 mo_X0_forget mv_X0_forget clX0 (Nat.le_of_ble_eq_true rfl) rfl rfl (Nat.le_of_ble_eq_true rfl) (by first | assumption | decide | omega) (by assumption) (by decide) (c_forget z8) ?_
  refine k_iload_n (pc' := 45) dX9_points_44 rfl ?_
  refine p_ireturn dX9_points_45 rfl ?_
  refine Or.inr ⟨P, rfl, by omega, by omega, rfl, hX.dist ?_ ?_ ?_ ?_ ?_ ?_, ?_⟩
  · exact (up_n (by decide)).trans ((putP_n (by decide) (by decide)).trans (putT_n (by decide) (by decide)))
  · exact (putT_T x1 (by omega) (by omega)).loc ((up_n (by decide)).trans (putP_n (by decide) (by decide))) ((up_n (by decide)).trans (putP_n (by decide) (by decide)))
  · exact ⟨M0, g0, x3.loc ((up_n (by decide)).trans ((putP_n (by decide) (by decide)).trans (putT_n (by decide) (by decide)))) ((up_n (by decide)).trans ((putP_n (by decide) (by decide)).trans (putT_n (by decide) (by decide))))⟩
  · exact (putP_P y5).loc (up_n (by decide)) (up_n (by decide)) (up_n (by decide))
  · exact z8.sized z8.2.2.2.1 (Nat.zero_le _)
  · exact fun q a b => (up_n (by omega)).trans ((putP_n (by omega) (by omega)).trans (putT_n (by omega) (by omega)))
  · exact fun q a => (up_n (by omega)).trans ((putP_n (by omega) (by omega)).trans (putT_n (by omega) (by omega)))
theorem x_put (h : isX G σ A B C I H T) {x y w : Int32} : ConP G mX9_put 4 [.ref (adr G 0), .int x, .int y, .int w] σ (fun v σ' => (¬ ((0 ≤ x.toInt ∧ x.toInt < A.1 ∧ 0 ≤ y.toInt ∧ y.toInt < A.1 ∧ x ≠ y) ∧ (0 ≤ w.toInt ∧ w.toInt ≤ 999)) ∧ xI G σ (-1) A B C I H T v σ') ∨ ∃ i j g f, x = nI i ∧ y = nI j ∧ i < A.1 ∧ j < A.1 ∧ i ≠ j ∧ (0 ≤ w.toInt ∧ w.toInt ≤ 999) ∧ f = upd (va_cpy A.2 g 0 0 15) (pI A.1 i j) w ∧ xI G σ (dT A.1 A.2 i j) (xDA A A.1 f) (xDB A B A.1 f) (xDC A C A.1 f) I H T v σ') := by
  have hX := h
  obtain ⟨x0, x1, ⟨M0, g0, x3⟩, x5, x8, -⟩ := h
  have e1 := x1.2.2.1
  have e3 := x3.2.2.1
  have hN2 := x1.2.2.2.2.1
  have hN6 := x1.2.2.2.2.2
  refine ConP.of rfl (Nat.le_of_ble_eq_true rfl) ?_
  refine k_aload_n (pc' := 1) dX9_put_0 rfl ?_
  refine p_get (pc' := 4) clX9 (Nat.le_of_ble_eq_true rfl) fl_RX9_12 dX9_put_1 (by first | assumption | decide | omega) (by assumption) rfl ?_
  refine k_iload_n (pc' := 5) dX9_put_4 rfl ?_
  refine k_iload_n (pc' := 6) dX9_put_5 rfl ?_
  refine p_vI (ν := mX6_hasPair) (pc' := 9) dX9_put_6 ml_RX9_101 mo_X6_hasPair mv_X6_hasPair clX6 (Nat.le_of_ble_eq_true rfl) rfl rfl (Nat.le_of_ble_eq_true rfl) (by first | assumption | decide | omega) (by assumption) (by decide) (c_hasPair x1 x y) ?_
  refine k_if_eq (tgt := 23) (pc' := 12) dX9_put_9 rfl (fun c_9 => ?_) (fun c_9 => ?_)
  · rw [bI_eq] at c_9
    refine k_iconst (pc' := 24) (v := -1) dX9_put_23 rfl ?_
    refine p_ireturn dX9_put_24 rfl ?_
    exact Or.inl ⟨fun q => c_9 q.1, rfl, hX, hi.rfl'⟩
  rw [bI_ne] at c_9
  refine k_iload_n (pc' := 13) dX9_put_12 rfl ?_
  refine k_if_lt (tgt := 23) (pc' := 16) dX9_put_13 rfl (fun c_13 => ?_) (fun c_13 => ?_)
  · rw [iLt, i0] at c_13
    refine k_iconst (pc' := 24) (v := -1) dX9_put_23 rfl ?_
    refine p_ireturn dX9_put_24 rfl ?_
    exact Or.inl ⟨fun q => by omega, rfl, hX, hi.rfl'⟩
  rw [iLt, i0] at c_13
  refine k_iload_n (pc' := 17) dX9_put_16 rfl ?_
  refine k_sipush (pc' := 20) (v := nI 999) dX9_put_17 rfl ?_
  refine k_icmp_le (tgt := 25) (pc' := 23) dX9_put_20 rfl (fun c_20 => ?_) (fun c_20 => ?_)
  rotate_left
  · rw [iLe, nI_e (by decide)] at c_20
    refine k_iconst (pc' := 24) (v := -1) dX9_put_23 rfl ?_
    refine p_ireturn dX9_put_24 rfl ?_
    exact Or.inl ⟨fun q => by omega, rfl, hX, hi.rfl'⟩
  rw [iLe, nI_e (by decide)] at c_20
  obtain ⟨i, hi6, rfl⟩ := nI_in0 (n := A.1) c_9.1 c_9.2.1 (by omega)
  obtain ⟨j, hj6, rfl⟩ := nI_in0 (n := A.1) c_9.2.2.1 c_9.2.2.2.1 (by omega)
  have hij : i ≠ j := fun e => c_9.2.2.2.2 (by rw [e])
  refine k_aload_n (pc' := 26) dX9_put_25 rfl ?_
  refine p_get (pc' := 29) clX9 (Nat.le_of_ble_eq_true rfl) fl_RX9_12 dX9_put_26 (by first | assumption | decide | omega) (by assumption) rfl ?_
  refine k_iload_n (pc' := 30) dX9_put_29 rfl ?_
  refine k_iload_n (pc' := 31) dX9_put_30 rfl ?_
  refine p_vI (ν := mX6_between) (pc' := 34) dX9_put_31 ml_RX9_105 mo_X6_between mv_X6_between clX6 (Nat.le_of_ble_eq_true rfl) rfl rfl (Nat.le_of_ble_eq_true rfl) (by first | assumption | decide | omega) (by assumption) (by decide) (c_between x1 (by omega) (by omega)) ?_
  refine k_istore (pc' := 36) dX9_put_34 (Nat.le_of_ble_eq_true rfl) rfl ?_
  refine k_aload_n (pc' := 37) dX9_put_36 rfl ?_
  refine p_get (pc' := 40) clX9 (Nat.le_of_ble_eq_true rfl) fl_RX9_18 dX9_put_37 (by first | assumption | decide | omega) (by assumption) rfl ?_
  refine k_aload_n (pc' := 41) dX9_put_40 rfl ?_
  refine p_get (pc' := 44) clX9 (Nat.le_of_ble_eq_true rfl) fl_RX9_12 dX9_put_41 (by first | assumption | decide | omega) (by assumption) rfl ?_
  refine p_vV (ν := mX6_copyFrom) (pc' := 47) dX9_put_44 ml_RX9_109 mo_X6_copyFrom mv_X6_copyFrom clX6 (Nat.le_of_ble_eq_true rfl) rfl rfl (Nat.le_of_ble_eq_true rfl) (by first | assumption | decide | omega) (by assumption) (by decide) (c_copyFrom x3 x1 (by decide) (by decide) (by decide)) ?_
  obtain ⟨hX1, y3⟩ := hX.next (g := va_cpy A.2 g0 0 0 15) hN2 hN6
  have y0 := hX1.1
  have f3 := y3.2.2.1
  have f4 := y3.2.2.2.1
  have hp := pI_lt hN6 hi6 hj6 hij
  refine k_aload_n (pc' := 48) dX9_put_47 rfl ?_
  refine p_get (pc' := 51) clX9 (Nat.le_of_ble_eq_true rfl) fl_RX9_18 dX9_put_48 (by first | assumption | decide | omega) (by assumption) rfl ?_
  refine p_get (pc' := 54) clX6 (Nat.le_of_ble_eq_true rfl) fl_RX9_113 dX9_put_51 (by first | assumption | decide | omega) (by assumption) rfl ?_
  refine k_aload_n (pc' := 55) dX9_put_54 rfl ?_
  refine p_get (pc' := 58) clX9 (Nat.le_of_ble_eq_true rfl) fl_RX9_18 dX9_put_55 (by first | assumption | decide | omega) (by assumption) rfl ?_
  refine k_iload_n (pc' := 59) dX9_put_58 rfl ?_
  refine k_iload_n (pc' := 60) dX9_put_59 rfl ?_
  refine p_vI (ν := mX6_pairOf) (pc' := 63) dX9_put_60 ml_RX9_117 mo_X6_pairOf mv_X6_pairOf clX6 (Nat.le_of_ble_eq_true rfl) rfl rfl (Nat.le_of_ble_eq_true rfl) (by first | assumption | decide | omega) (by assumption) (by decide) (c_pairOf y3 hi6 hj6 hij) ?_
  refine k_iload_n (pc' := 64) dX9_put_63 rfl ?_
  refine p_iastN (pc' := 65) (σ1 := putT G σ 3 A.1 (upd (va_cpy A.2 g0 0 0 15) (pI A.1 i j) w)) dX9_put_64 (by first | assumption | decide | omega) (by assumption) (by first | decide | omega) (by omega) (by exact up_up) ?_
  obtain ⟨hX2, z3⟩ := hX.next (g := upd (va_cpy A.2 g0 0 0 15) (pI A.1 i j) w) hN2 hN6
  have z0 := hX2.1
  refine k_aload_n (pc' := 66) dX9_put_65 rfl ?_
  refine p_callV (ν := mX9_doDeed) (pc' := 69) dX9_put_66 ml_RX9_120 mo_X9_doDeed mv_X9_doDeed clX9 (Nat.le_of_ble_eq_true rfl) rfl rfl (Nat.le_of_ble_eq_true rfl) (by first | assumption | decide | omega) (by assumption) (by decide) (x_doDeed hX2 z3) (fun v_66 σ_66 h_66 => ?_)
  obtain ⟨rfl, hX3, -, hh⟩ := h_66
  refine k_pop (pc' := 70) dX9_put_69 rfl ?_
  refine k_iload (pc' := 72) dX9_put_70 rfl ?_
  refine p_ireturn dX9_put_72 rfl ?_
  exact Or.inr ⟨i, j, g0, _, rfl, rfl, hi6, hj6, hij, ⟨by omega, by omega⟩, rfl, rfl, hX3, hi_next.trans hh⟩
theorem x_at (h : isX G σ A B C I H T) {x y : Int32} : ConP G mX9_at 3 [.ref (adr G 0), .int x, .int y] σ (fun v σ' => (¬ (0 ≤ x.toInt ∧ x.toInt < A.1 ∧ 0 ≤ y.toInt ∧ y.toInt < A.1 ∧ x ≠ y) ∧ xI G σ (-1) A B C I H T v σ') ∨ ∃ i j, x = nI i ∧ y = nI j ∧ i < A.1 ∧ j < A.1 ∧ i ≠ j ∧ xI G σ (dT A.1 A.2 i j) A B C I H T v σ') := by
  have hX := h
  obtain ⟨x0, x1, -⟩ := h
  have e1 := x1.2.2.1
  have hN6 := x1.2.2.2.2.2
  refine ConP.of rfl (Nat.le_of_ble_eq_true rfl) ?_
  refine k_aload_n (pc' := 1) dX9_at_0 rfl ?_
  refine p_get (pc' := 4) clX9 (Nat.le_of_ble_eq_true rfl) fl_RX9_12 dX9_at_1 (by first | assumption | decide | omega) (by assumption) rfl ?_
  refine k_iload_n (pc' := 5) dX9_at_4 rfl ?_
  refine k_iload_n (pc' := 6) dX9_at_5 rfl ?_
  refine p_vI (ν := mX6_hasPair) (pc' := 9) dX9_at_6 ml_RX9_101 mo_X6_hasPair mv_X6_hasPair clX6 (Nat.le_of_ble_eq_true rfl) rfl rfl (Nat.le_of_ble_eq_true rfl) (by first | assumption | decide | omega) (by assumption) (by decide) (c_hasPair x1 x y) ?_
  refine k_if_eq (tgt := 24) (pc' := 12) dX9_at_9 rfl (fun c_9 => ?_) (fun c_9 => ?_)
  · rw [bI_eq] at c_9
    refine k_iconst (pc' := 25) (v := -1) dX9_at_24 rfl ?_
    refine p_ireturn dX9_at_25 rfl ?_
    exact Or.inl ⟨c_9, rfl, hX, hi.rfl'⟩
  rw [bI_ne] at c_9
  obtain ⟨i, hi6, rfl⟩ := nI_in0 (n := A.1) c_9.1 c_9.2.1 (by omega)
  obtain ⟨j, hj6, rfl⟩ := nI_in0 (n := A.1) c_9.2.2.1 c_9.2.2.2.1 (by omega)
  have hij : i ≠ j := fun e => c_9.2.2.2.2 (by rw [e])
  refine k_aload_n (pc' := 13) dX9_at_12 rfl ?_
  refine p_get (pc' := 16) clX9 (Nat.le_of_ble_eq_true rfl) fl_RX9_12 dX9_at_13 (by first | assumption | decide | omega) (by assumption) rfl ?_
  refine k_iload_n (pc' := 17) dX9_at_16 rfl ?_
  refine k_iload_n (pc' := 18) dX9_at_17 rfl ?_
  refine p_vI (ν := mX6_between) (pc' := 21) dX9_at_18 ml_RX9_105 mo_X6_between mv_X6_between clX6 (Nat.le_of_ble_eq_true rfl) rfl rfl (Nat.le_of_ble_eq_true rfl) (by first | assumption | decide | omega) (by assumption) (by decide) (c_between x1 (by omega) (by omega)) ?_
  refine k_goto (tgt := 25) dX9_at_21 rfl ?_
  refine p_ireturn dX9_at_25 rfl ?_
  exact Or.inr ⟨i, j, rfl, rfl, hi6, hj6, hij, rfl, hX, hi.rfl'⟩
/-- the distances after a cut -/
def xCut1 (a w : Int32) (p : Nat) (f : Nat → Int32) : Nat → Int32 := upd f p (f p + (a >>> (nI p &&& 31) &&& nI 1) * w)
def xCut (N : Nat) (a w : Int32) (f : Nat → Int32) : Nat → Int32 := upn (pN N) 0 (xCut1 a w) f
theorem x_cut (h : isX G σ A B C I H T) {x w : Int32} : ConP G mX9_cut 5 [.ref (adr G 0), .int x, .int w] σ (fun v σ' => (¬ ((1 ≤ x.toInt ∧ x.toInt ≤ lC A.1) ∧ (-99 ≤ w.toInt ∧ w.toInt ≤ 99)) ∧ xI G σ (-1) A B C I H T v σ') ∨ ((1 ≤ x.toInt ∧ x.toInt ≤ lC A.1) ∧ (-99 ≤ w.toInt ∧ w.toInt ≤ 99) ∧ ∃ g f, f = xCut A.1 (pA A.1 x) w (va_cpy A.2 g 0 0 15) ∧ ((¬ inB A.1 f ∧ xI G σ (-5) A B C I H T v σ') ∨ (inB A.1 f ∧ xI G σ (tot (xDA A A.1 f).1 (xDA A A.1 f).2) (xDA A A.1 f) (xDB A B A.1 f) (xDC A C A.1 f) I H T v σ')))) := by
  have hX := h
  obtain ⟨x0, x1, ⟨M0, g0, x3⟩, x5, x8, -⟩ := h
  have e1 := x1.2.2.1
  have e3 := x3.2.2.1
  have hN2 := x1.2.2.2.2.1
  have hN6 := x1.2.2.2.2.2
  refine ConP.of rfl (Nat.le_of_ble_eq_true rfl) ?_
  refine k_aload_n (pc' := 1) dX9_cut_0 rfl ?_
  refine p_get (pc' := 4) clX9 (Nat.le_of_ble_eq_true rfl) fl_RX9_12 dX9_cut_1 (by first | assumption | decide | omega) (by assumption) rfl ?_
  refine k_iload_n (pc' := 5) dX9_cut_4 rfl ?_
  refine p_vI (ν := mX6_hasCut) (pc' := 8) dX9_cut_5 ml_RX9_124 mo_X6_hasCut mv_X6_hasCut clX6 (Nat.le_of_ble_eq_true rfl) rfl rfl (Nat.le_of_ble_eq_true rfl) (by first | assumption | decide | omega) (by assumption) (by decide) (c_hasCut x1 x) ?_
  refine k_if_eq (tgt := 23) (pc' := 11) dX9_cut_8 rfl (fun c_8 => ?_) (fun c_8 => ?_)
  · rw [bI_eq] at c_8
    refine k_iconst (pc' := 24) (v := -1) dX9_cut_23 rfl ?_
    refine p_ireturn dX9_cut_24 rfl ?_
    exact Or.inl ⟨fun q => c_8 q.1, rfl, hX, hi.rfl'⟩
  rw [bI_ne] at c_8
  refine k_iload_n (pc' := 12) dX9_cut_11 rfl ?_
  refine k_bipush (pc' := 14) (v := -99) dX9_cut_12 rfl ?_
  refine k_icmp_lt (tgt := 23) (pc' := 17) dX9_cut_14 rfl (fun c_14 => ?_) (fun c_14 => ?_)
  · rw [iLt, show (-99 : Int32).toInt = -99 from rfl] at c_14
    refine k_iconst (pc' := 24) (v := -1) dX9_cut_23 rfl ?_
    refine p_ireturn dX9_cut_24 rfl ?_
    exact Or.inl ⟨fun q => by omega, rfl, hX, hi.rfl'⟩
  rw [iLt, show (-99 : Int32).toInt = -99 from rfl] at c_14
  refine k_iload_n (pc' := 18) dX9_cut_17 rfl ?_
  refine k_bipush (pc' := 20) (v := nI 99) dX9_cut_18 rfl ?_
  refine k_icmp_le (tgt := 25) (pc' := 23) dX9_cut_20 rfl (fun c_20 => ?_) (fun c_20 => ?_)
  rotate_left
  · rw [iLe, nI_e (by decide)] at c_20
    refine k_iconst (pc' := 24) (v := -1) dX9_cut_23 rfl ?_
    refine p_ireturn dX9_cut_24 rfl ?_
    exact Or.inl ⟨fun q => by omega, rfl, hX, hi.rfl'⟩
  rw [iLe, nI_e (by decide)] at c_20
  refine k_aload_n (pc' := 26) dX9_cut_25 rfl ?_
  refine p_get (pc' := 29) clX9 (Nat.le_of_ble_eq_true rfl) fl_RX9_18 dX9_cut_26 (by first | assumption | decide | omega) (by assumption) rfl ?_
  refine k_aload_n (pc' := 30) dX9_cut_29 rfl ?_
  refine p_get (pc' := 33) clX9 (Nat.le_of_ble_eq_true rfl) fl_RX9_12 dX9_cut_30 (by first | assumption | decide | omega) (by assumption) rfl ?_
  refine p_vV (ν := mX6_copyFrom) (pc' := 36) dX9_cut_33 ml_RX9_109 mo_X6_copyFrom mv_X6_copyFrom clX6 (Nat.le_of_ble_eq_true rfl) rfl rfl (Nat.le_of_ble_eq_true rfl) (by first | assumption | decide | omega) (by assumption) (by decide) (c_copyFrom x3 x1 (by decide) (by decide) (by decide)) ?_
  obtain ⟨hX1, y3⟩ := hX.next (g := va_cpy A.2 g0 0 0 15) hN2 hN6
  have y0 := hX1.1
  have y1 := hX1.2.1
  have f1 := y1.2.2.1
  refine k_aload_n (pc' := 37) dX9_cut_36 rfl ?_
  refine p_get (pc' := 40) clX9 (Nat.le_of_ble_eq_true rfl) fl_RX9_12 dX9_cut_37 (by first | assumption | decide | omega) (by assumption) rfl ?_
  refine k_iload_n (pc' := 41) dX9_cut_40 rfl ?_
  refine p_vI (ν := mX6_pairsApart) (pc' := 44) dX9_cut_41 ml_RX9_128 mo_X6_pairsApart mv_X6_pairsApart clX6 (Nat.le_of_ble_eq_true rfl) rfl rfl (Nat.le_of_ble_eq_true rfl) (by first | assumption | decide | omega) (by assumption) (by decide) (c_pairsApart y1 x) ?_
  refine k_istore_n (pc' := 45) dX9_cut_44 (Nat.le_of_ble_eq_true rfl) rfl ?_
  refine k_iconst (pc' := 46) (v := nI 0) dX9_cut_45 rfl ?_
  refine k_istore (pc' := 48) dX9_cut_46 (Nat.le_of_ble_eq_true rfl) rfl ?_
  have hpn := pN_le hN6
  refine loopU (fun p f => OkP G mX9_cut 5 (fun v σ' => (¬ ((1 ≤ x.toInt ∧ x.toInt ≤ lC A.1) ∧ (-99 ≤ w.toInt ∧ w.toInt ≤ 99)) ∧ xI G σ (-1) A B C I H T v σ') ∨ ((1 ≤ x.toInt ∧ x.toInt ≤ lC A.1) ∧ (-99 ≤ w.toInt ∧ w.toInt ≤ 99) ∧ ∃ g f, f = xCut A.1 (pA A.1 x) w (va_cpy A.2 g 0 0 15) ∧ ((¬ inB A.1 f ∧ xI G σ (-5) A B C I H T v σ') ∨ (inB A.1 f ∧ xI G σ (tot (xDA A A.1 f).1 (xDA A A.1 f).2) (xDA A A.1 f) (xDB A B A.1 f) (xDC A C A.1 f) I H T v σ')))) 48 [some (.ref (adr G 0)), some (.int x), some (.int w), some (.int (pA A.1 x)), some (.int (nI p))] [] (putT G σ 3 A.1 f)) (xCut1 (pA A.1 x) w) (pN A.1) 0 (pN A.1) (va_cpy A.2 g0 0 0 15) (by omega) ?_ ?_
  · intro p f _ hp ih
    obtain ⟨hX2, z3⟩ := hX.next (g := f) hN2 hN6
    have z0 := hX2.1
    have z1 := hX2.2.1
    have g1 := z1.2.2.1
    have g3 := z3.2.2.1
    have g4 := z3.2.2.2.1
    refine k_iload (pc' := 50) dX9_cut_48 rfl ?_
    refine k_aload_n (pc' := 51) dX9_cut_50 rfl ?_
    refine p_get (pc' := 54) clX9 (Nat.le_of_ble_eq_true rfl) fl_RX9_12 dX9_cut_51 (by first | assumption | decide | omega) (by assumption) rfl ?_
    refine p_vI (ν := mX6_pairCount) (pc' := 57) dX9_cut_54 ml_RX9_132 mo_X6_pairCount mv_X6_pairCount clX6 (Nat.le_of_ble_eq_true rfl) rfl rfl (Nat.le_of_ble_eq_true rfl) (by first | assumption | decide | omega) (by assumption) (by decide) (c_pairCount z1) ?_
    refine k_icmp_ge (tgt := 87) (pc' := 60) dX9_cut_57 rfl (fun zz_ => absurd zz_ (nI_ge (by omega) (by omega))) (fun _ => ?_)
    refine k_aload_n (pc' := 61) dX9_cut_60 rfl ?_
    refine p_get (pc' := 64) clX9 (Nat.le_of_ble_eq_true rfl) fl_RX9_18 dX9_cut_61 (by first | assumption | decide | omega) (by assumption) rfl ?_
    refine p_get (pc' := 67) clX6 (Nat.le_of_ble_eq_true rfl) fl_RX9_113 dX9_cut_64 (by first | assumption | decide | omega) (by assumption) rfl ?_
    refine k_iload (pc' := 69) dX9_cut_67 rfl ?_
    refine k_dup2 (pc' := 70) dX9_cut_69 rfl rfl ?_
    refine p_ialdN (pc' := 71) dX9_cut_70 (by first | assumption | decide | omega) (by assumption) (by first | decide | omega) (by omega) ?_
    refine k_iload_n (pc' := 72) dX9_cut_71 rfl ?_
    refine k_iload (pc' := 74) dX9_cut_72 rfl ?_
    refine k_ishr (pc' := 75) dX9_cut_74 rfl ?_
    refine k_iconst (pc' := 76) (v := nI 1) dX9_cut_75 rfl ?_
    refine k_iand (pc' := 77) dX9_cut_76 rfl ?_
    refine k_iload_n (pc' := 78) dX9_cut_77 rfl ?_
    refine k_imul (pc' := 79) (v := (pA A.1 x >>> (nI p &&& 31) &&& nI 1) * w) dX9_cut_78 rfl ?_
    refine k_iadd (pc' := 80) (v := f p + (pA A.1 x >>> (nI p &&& 31) &&& nI 1) * w) dX9_cut_79 rfl ?_
    refine p_iastN (pc' := 81) (σ1 := putT G σ 3 A.1 (xCut1 (pA A.1 x) w p f)) dX9_cut_80 (by first | assumption | decide | omega) (by assumption) (by first | decide | omega) (by omega) (by exact up_up) ?_
    refine k_iinc (pc' := 84) (v := nI (p + 1)) dX9_cut_81 rfl (nI_inc _) (Nat.le_of_ble_eq_true rfl) rfl ?_
    refine k_goto (tgt := 48) dX9_cut_84 rfl ?_
    exact ih
  · obtain ⟨hX2, z3⟩ := hX.next (g := upn (pN A.1) 0 (xCut1 (pA A.1 x) w) (va_cpy A.2 g0 0 0 15)) hN2 hN6
    have z0 := hX2.1
    have z1 := hX2.2.1
    have g1 := z1.2.2.1
    refine k_iload (pc' := 50) dX9_cut_48 rfl ?_
    refine k_aload_n (pc' := 51) dX9_cut_50 rfl ?_
    refine p_get (pc' := 54) clX9 (Nat.le_of_ble_eq_true rfl) fl_RX9_12 dX9_cut_51 (by first | assumption | decide | omega) (by assumption) rfl ?_
    refine p_vI (ν := mX6_pairCount) (pc' := 57) dX9_cut_54 ml_RX9_132 mo_X6_pairCount mv_X6_pairCount clX6 (Nat.le_of_ble_eq_true rfl) rfl rfl (Nat.le_of_ble_eq_true rfl) (by first | assumption | decide | omega) (by assumption) (by decide) (c_pairCount z1) ?_
    refine k_icmp_ge (tgt := 87) (pc' := 60) dX9_cut_57 rfl (fun _ => ?_) (fun zz_ => absurd (nI_le (by omega) (by omega)) zz_)
    refine k_aload_n (pc' := 88) dX9_cut_87 rfl ?_
    refine p_callV (ν := mX9_doDeedInBounds) (pc' := 91) dX9_cut_88 ml_RX9_135 mo_X9_doDeedInBounds mv_X9_doDeedInBounds clX9 (Nat.le_of_ble_eq_true rfl) rfl rfl (Nat.le_of_ble_eq_true rfl) (by first | assumption | decide | omega) (by assumption) (by decide) (x_doDeedInBounds hX2 z3) (fun v_88 σ_88 h_88 => ?_)
    rcases h_88 with ⟨hb, rfl, hX3, hh⟩ | ⟨hb, rfl, hX3, hh⟩
    · refine p_ireturn dX9_cut_91 rfl ?_
      exact Or.inr ⟨c_8, ⟨by omega, by omega⟩, g0, _, rfl, Or.inl ⟨hb, rfl, hX3, hi_next.trans hh⟩⟩
    · refine p_ireturn dX9_cut_91 rfl ?_
      exact Or.inr ⟨c_8, ⟨by omega, by omega⟩, g0, _, rfl, Or.inr ⟨hb, rfl, hX3, hi_next.trans hh⟩⟩
theorem x_paths (h : isX G σ A B C I H T) : ConP G mX9_paths 4 [.ref (adr G 0)] σ (fun v σ' => ∃ g f, f = sho A.1 (va_cpy A.2 g 0 0 15) ∧ xI G σ (xO A A.1 f) (xDA A A.1 f) (xDB A B A.1 f) (xDC A C A.1 f) I H T v σ') := by
  have hX := h
  obtain ⟨x0, x1, ⟨M0, g0, x3⟩, x5, x8, -⟩ := h
  have e1 := x1.2.2.1
  have e3 := x3.2.2.1
  have hN2 := x1.2.2.2.2.1
  have hN6 := x1.2.2.2.2.2
  refine ConP.of rfl (Nat.le_of_ble_eq_true rfl) ?_
  refine k_aload_n (pc' := 1) dX9_paths_0 rfl ?_
  refine p_get (pc' := 4) clX9 (Nat.le_of_ble_eq_true rfl) fl_RX9_18 dX9_paths_1 (by first | assumption | decide | omega) (by assumption) rfl ?_
  refine k_aload_n (pc' := 5) dX9_paths_4 rfl ?_
  refine p_get (pc' := 8) clX9 (Nat.le_of_ble_eq_true rfl) fl_RX9_12 dX9_paths_5 (by first | assumption | decide | omega) (by assumption) rfl ?_
  refine p_vV (ν := mX6_copyFrom) (pc' := 11) dX9_paths_8 ml_RX9_109 mo_X6_copyFrom mv_X6_copyFrom clX6 (Nat.le_of_ble_eq_true rfl) rfl rfl (Nat.le_of_ble_eq_true rfl) (by first | assumption | decide | omega) (by assumption) (by decide) (c_copyFrom x3 x1 (by decide) (by decide) (by decide)) ?_
  obtain ⟨hX1, y3⟩ := hX.next (g := va_cpy A.2 g0 0 0 15) hN2 hN6
  have y0 := hX1.1
  have f3 := y3.2.2.1
  refine k_aload_n (pc' := 12) dX9_paths_11 rfl ?_
  refine p_get (pc' := 15) clX9 (Nat.le_of_ble_eq_true rfl) fl_RX9_18 dX9_paths_12 (by first | assumption | decide | omega) (by assumption) rfl ?_
  refine p_vV (ν := mX6_shorten) (pc' := 18) dX9_paths_15 ml_RX9_138 mo_X6_shorten mv_X6_shorten clX6 (Nat.le_of_ble_eq_true rfl) rfl rfl (Nat.le_of_ble_eq_true rfl) (by first | assumption | decide | omega) (by assumption) (by decide) (c_shorten y3) ?_
  rw [putT_o]
  obtain ⟨hX2, z3⟩ := hX.next (g := sho A.1 (va_cpy A.2 g0 0 0 15)) hN2 hN6
  have z0 := hX2.1
  refine k_aload_n (pc' := 19) dX9_paths_18 rfl ?_
  refine p_callV (ν := mX9_doDeed) (pc' := 22) dX9_paths_19 ml_RX9_120 mo_X9_doDeed mv_X9_doDeed clX9 (Nat.le_of_ble_eq_true rfl) rfl rfl (Nat.le_of_ble_eq_true rfl) (by first | assumption | decide | omega) (by assumption) (by decide) (x_doDeed hX2 z3) (fun v_19 σ_19 h_19 => ?_)
  obtain ⟨rfl, hX3, -, hh⟩ := h_19
  refine p_ireturn dX9_paths_22 rfl ?_
  exact ⟨g0, _, rfl, rfl, hX3, hi_next.trans hh⟩
end X2
