section X12
variable {G : GT} {σ σ' : Sto} {A : XA} {B : XB} {C : XC} {I : XI} {H : XH} {T : XT}
theorem fA_le {S : Nat} {b : Nat → Int32} {i : Nat} : -1 ≤ (fA S b i).toInt := by
  unfold fA
  split
  · rename_i h
    have h1 := h.1
    have h2 := h.2
    rw [iLe, nI_e (by decide)] at h1
    rw [iLe, nI_e (by decide)] at h2
    generalize bA S b i = v at *
    have h3 : v = nI v.toInt.toNat := by
      rw [iEq, nI_e (by omega)]
      omega
    rw [h3, show nI v.toInt.toNat - nI 48 = nI (v.toInt.toNat - 48) from pk_sub (by omega), nI_e (by omega)]
    omega
  · decide
theorem x_read (h : isX G σ A B C I H T) (hT : T.1 ≤ 80) : ConP G mX9_read 6 [.ref (adr G 0)] σ (fun v σ' => ((fA T.1 T.2 0 < nI 2 ∨ nI 6 < fA T.1 T.2 0) ∧ xI G σ (-1000 - nI 0) A B C I H (0, T.2) v σ') ∨ ∃ N g f, fA T.1 T.2 0 = nI N ∧ 2 ≤ N ∧ N ≤ 6 ∧ f = prs N T.1 T.2 g ∧ ((¬ prA T.1 f < 0 ∧ xI G σ (-1000 - prA T.1 f) A B C I H (0, T.2) v σ') ∨ (prA T.1 f < 0 ∧ xI G σ (nI (xDA A N f.1).1) (xDA A N f.1) (xDB A B N f.1) (xDC A C N f.1) I H (0, T.2) v σ'))) := by
  have hX := h
  obtain ⟨x0, x1, ⟨M0, g0, x3⟩, -, x8, -, -, -, -, ⟨sp, xt⟩, -⟩ := h
  have e44 : σ 44 = _ := (congrFun xt 44).symm.trans pT44
  refine ConP.of rfl (Nat.le_of_ble_eq_true rfl) ?_
  by_cases hb : fA T.1 T.2 0 < nI 2 ∨ nI 6 < fA T.1 T.2 0
  · have con := c_parseBad (G := G) (σ := σ) (sp := sp) (t := 3) hT hb
    rw [xt] at con
    have o44 : va_up σ 44 (ob 7 [.ref (adr G 45), .int (nI 0), .int (nI sp)]) = putTp G σ 0 sp T.2 := by
      have := pT_o (G := G) (σ := σ) (S := T.1) (sp := sp) (by' := T.2) (S2 := 0) (sp2 := sp)
      rw [xt] at this
      exact this
    refine k_aload_n (pc' := 1) dX9_read_0 rfl ?_
    refine p_get (pc' := 4) clX9 (Nat.le_of_ble_eq_true rfl) fl_RX9_54 dX9_read_1 (by first | assumption | decide | omega) (by assumption) rfl ?_
    refine k_aload_n (pc' := 5) dX9_read_4 rfl ?_
    refine p_get (pc' := 8) clX9 (Nat.le_of_ble_eq_true rfl) fl_RX9_18 dX9_read_5 (by first | assumption | decide | omega) (by assumption) rfl ?_
    refine p_vI (ν := mX7_parseInto) (pc' := 11) dX9_read_8 ml_RX9_287 mo_X7_parseInto mv_X7_parseInto clX7 (Nat.le_of_ble_eq_true rfl) rfl rfl (Nat.le_of_ble_eq_true rfl) (by first | assumption | decide | omega) e44 (by decide) (con) ?_
    refine k_istore_n (pc' := 12) dX9_read_11 (Nat.le_of_ble_eq_true rfl) rfl ?_
    refine k_aload_n (pc' := 13) dX9_read_12 rfl ?_
    refine p_get (pc' := 16) clX9 (Nat.le_of_ble_eq_true rfl) fl_RX9_54 dX9_read_13 (by first | assumption | decide | omega) (by assumption) rfl ?_
    refine k_iconst (pc' := 17) (v := nI 0) dX9_read_16 rfl ?_
    refine p_putI (pc' := 20) (σ1 := putTp G σ 0 sp T.2) clX7 (Nat.le_of_ble_eq_true rfl) fl_RX9_283 dX9_read_17 rfl (Or.inl rfl) (by first | assumption | decide | omega) e44 (Nat.le_of_ble_eq_true rfl) (by exact o44) ?_
    refine k_iload_n (pc' := 21) dX9_read_20 rfl ?_
    refine k_if_lt (tgt := 30) (pc' := 24) dX9_read_21 rfl (fun zz_ => absurd zz_ (by decide)) (fun _ => ?_)
    refine k_sipush (pc' := 27) (v := -1000) dX9_read_24 rfl ?_
    refine k_iload_n (pc' := 28) dX9_read_27 rfl ?_
    refine k_isub (pc' := 29) (v := -1000 - nI 0) dX9_read_28 rfl ?_
    refine p_ireturn dX9_read_29 rfl ?_
    exact Or.inl ⟨hb, rfl, hX.tape, hi_tape⟩
  obtain ⟨N, hN2, hN6, hf⟩ : ∃ N, 2 ≤ N ∧ N ≤ 6 ∧ fA T.1 T.2 0 = nI N := by
    rw [iLt, iLt, nI_e (by decide), nI_e (by decide)] at hb
    obtain ⟨N, hN, e⟩ := nI_in0 (n := 7) (x := fA T.1 T.2 0) (by omega) (by omega) (by decide)
    rw [e, nI_e (by omega)] at hb
    exact ⟨N, by omega, by omega, e⟩
  have con := c_parseInto (G := G) (σ := σ) (sp := sp) x3 (by decide) hT hN2 hN6 hf
  rw [xt] at con
  obtain ⟨f, hfd⟩ : ∃ f, f = prs N T.1 T.2 g0 := ⟨_, rfl⟩
  rw [← hfd] at con
  have zX : isX G (putTp G (putT G σ 3 N f.1) 0 f.2.1 T.2) A B C I H (0, T.2) := (hX.next hN2 hN6).1.tape
  have z3 : isT G (putTp G (putT G σ 3 N f.1) 0 f.2.1 T.2) 3 N f.1 := pT_T (hX.next hN2 hN6).2 (by decide)
  have z0 := zX.1
  have y0 : putTp G (putT G σ 3 N f.1) T.1 f.2.1 T.2 0 = _ := (pTn (by decide) (by decide)).trans ((putT_n (by decide) (by decide)).trans x0)
  have zh : hi σ (putTp G (putT G σ 3 N f.1) 0 f.2.1 T.2) := hi_next.trans hi_tape
  by_cases hp : prA T.1 f < 0
  · refine k_aload_n (pc' := 1) dX9_read_0 rfl ?_
    refine p_get (pc' := 4) clX9 (Nat.le_of_ble_eq_true rfl) fl_RX9_54 dX9_read_1 (by first | assumption | decide | omega) (by assumption) rfl ?_
    refine k_aload_n (pc' := 5) dX9_read_4 rfl ?_
    refine p_get (pc' := 8) clX9 (Nat.le_of_ble_eq_true rfl) fl_RX9_18 dX9_read_5 (by first | assumption | decide | omega) (by assumption) rfl ?_
    refine p_vI (ν := mX7_parseInto) (pc' := 11) dX9_read_8 ml_RX9_287 mo_X7_parseInto mv_X7_parseInto clX7 (Nat.le_of_ble_eq_true rfl) rfl rfl (Nat.le_of_ble_eq_true rfl) (by first | assumption | decide | omega) e44 (by decide) (con) ?_
    refine k_istore_n (pc' := 12) dX9_read_11 (Nat.le_of_ble_eq_true rfl) rfl ?_
    refine k_aload_n (pc' := 13) dX9_read_12 rfl ?_
    refine p_get (pc' := 16) clX9 (Nat.le_of_ble_eq_true rfl) fl_RX9_54 dX9_read_13 (by first | assumption | decide | omega) (by assumption) rfl ?_
    refine k_iconst (pc' := 17) (v := nI 0) dX9_read_16 rfl ?_
    refine p_putI (pc' := 20) (σ1 := putTp G (putT G σ 3 N f.1) 0 f.2.1 T.2) clX7 (Nat.le_of_ble_eq_true rfl) fl_RX9_283 dX9_read_17 rfl (Or.inl rfl) (by first | assumption | decide | omega) pT44 (Nat.le_of_ble_eq_true rfl) (by exact pT_o) ?_
    refine k_iload_n (pc' := 21) dX9_read_20 rfl ?_
    refine k_if_lt (tgt := 30) (pc' := 24) dX9_read_21 rfl (fun _ => ?_) (fun zz_ => absurd hp zz_)
    refine k_aload_n (pc' := 31) dX9_read_30 rfl ?_
    refine p_callV (ν := mX9_doDeed) (pc' := 34) dX9_read_31 ml_RX9_120 mo_X9_doDeed mv_X9_doDeed clX9 (Nat.le_of_ble_eq_true rfl) rfl rfl (Nat.le_of_ble_eq_true rfl) (by first | assumption | decide | omega) (by assumption) (by decide) (x_doDeed zX z3) (fun v_31 σ_31 h_31 => ?_)
    obtain ⟨rfl, hX2, -, hh⟩ := h_31
    have w0 := hX2.1
    have w1 := hX2.2.1.2.2.1
    refine k_pop (pc' := 35) dX9_read_34 rfl ?_
    refine k_aload_n (pc' := 36) dX9_read_35 rfl ?_
    refine p_get (pc' := 39) clX9 (Nat.le_of_ble_eq_true rfl) fl_RX9_12 dX9_read_36 (by first | assumption | decide | omega) (by assumption) rfl ?_
    refine p_get (pc' := 42) clX6 (Nat.le_of_ble_eq_true rfl) fl_RX9_87 dX9_read_39 (by first | assumption | decide | omega) (by assumption) rfl ?_
    refine p_ireturn dX9_read_42 rfl ?_
    exact Or.inr ⟨N, g0, f, hf, hN2, hN6, hfd, Or.inr ⟨hp, rfl, hX2, zh.trans hh⟩⟩
  · refine k_aload_n (pc' := 1) dX9_read_0 rfl ?_
    refine p_get (pc' := 4) clX9 (Nat.le_of_ble_eq_true rfl) fl_RX9_54 dX9_read_1 (by first | assumption | decide | omega) (by assumption) rfl ?_
    refine k_aload_n (pc' := 5) dX9_read_4 rfl ?_
    refine p_get (pc' := 8) clX9 (Nat.le_of_ble_eq_true rfl) fl_RX9_18 dX9_read_5 (by first | assumption | decide | omega) (by assumption) rfl ?_
    refine p_vI (ν := mX7_parseInto) (pc' := 11) dX9_read_8 ml_RX9_287 mo_X7_parseInto mv_X7_parseInto clX7 (Nat.le_of_ble_eq_true rfl) rfl rfl (Nat.le_of_ble_eq_true rfl) (by first | assumption | decide | omega) e44 (by decide) (con) ?_
    refine k_istore_n (pc' := 12) dX9_read_11 (Nat.le_of_ble_eq_true rfl) rfl ?_
    refine k_aload_n (pc' := 13) dX9_read_12 rfl ?_
    refine p_get (pc' := 16) clX9 (Nat.le_of_ble_eq_true rfl) fl_RX9_54 dX9_read_13 (by first | assumption | decide | omega) (by assumption) rfl ?_
    refine k_iconst (pc' := 17) (v := nI 0) dX9_read_16 rfl ?_
    refine p_putI (pc' := 20) (σ1 := putTp G (putT G σ 3 N f.1) 0 f.2.1 T.2) clX7 (Nat.le_of_ble_eq_true rfl) fl_RX9_283 dX9_read_17 rfl (Or.inl rfl) (by first | assumption | decide | omega) pT44 (Nat.le_of_ble_eq_true rfl) (by exact pT_o) ?_
    refine k_iload_n (pc' := 21) dX9_read_20 rfl ?_
    refine k_if_lt (tgt := 30) (pc' := 24) dX9_read_21 rfl (fun zz_ => absurd zz_ hp) (fun _ => ?_)
    refine k_sipush (pc' := 27) (v := -1000) dX9_read_24 rfl ?_
    refine k_iload_n (pc' := 28) dX9_read_27 rfl ?_
    refine k_isub (pc' := 29) (v := -1000 - prA T.1 f) dX9_read_28 rfl ?_
    refine p_ireturn dX9_read_29 rfl ?_
    exact Or.inr ⟨N, g0, f, hf, hN2, hN6, hfd, Or.inl ⟨hp, rfl, zX, zh⟩⟩
/-! the image -/
theorem x_image (h : isX G σ A B C I H T) : ConP G mX9_image 2 [.ref (adr G 0)] σ (xI G σ (nI A.1) A B C (1, (A.1, va_cpy A.2 I.2.1.2 0 0 15), (va_cpy B.1 I.2.2.1 0 0 6, va_cpy B.2 I.2.2.2 0 0 6)) H T) := by
  have hX := h
  obtain ⟨x0, x1, ⟨M0, g0, x3⟩, x5, x8, x26, x28, x31, xh, ⟨sp, xt⟩, xs⟩ := h
  have e1 := x1.2.2.1
  have e26 := x26.2.2.1
  have e28 := x28.2.1
  have hN2 := x1.2.2.2.2.1
  have hN6 := x1.2.2.2.2.2
  refine ConP.of rfl (Nat.le_of_ble_eq_true rfl) ?_
  refine k_aload_n (pc' := 1) dX9_image_0 rfl ?_
  refine p_get (pc' := 4) clX9 (Nat.le_of_ble_eq_true rfl) fl_RX9_35 dX9_image_1 (by first | assumption | decide | omega) (by assumption) rfl ?_
  refine k_aload_n (pc' := 5) dX9_image_4 rfl ?_
  refine p_get (pc' := 8) clX9 (Nat.le_of_ble_eq_true rfl) fl_RX9_12 dX9_image_5 (by first | assumption | decide | omega) (by assumption) rfl ?_
  refine p_vV (ν := mX6_copyFrom) (pc' := 11) dX9_image_8 ml_RX9_109 mo_X6_copyFrom mv_X6_copyFrom clX6 (Nat.le_of_ble_eq_true rfl) rfl rfl (Nat.le_of_ble_eq_true rfl) (by first | assumption | decide | omega) (by assumption) (by decide) (c_copyFrom x26 x1 (by decide) (by decide) (by decide)) ?_
  obtain ⟨f, hf⟩ : ∃ f, f = va_cpy A.2 I.2.1.2 0 0 15 := ⟨_, rfl⟩
  rw [← hf]
  obtain ⟨σ1, hs1⟩ : ∃ σ1, σ1 = putT G σ 26 A.1 f := ⟨_, rfl⟩
  rw [← hs1]
  have l1 : ∀ q, q ≠ 26 → q ≠ 27 → σ1 q = σ q := fun q a b => by rw [hs1]; exact putT_n a b
  have y0 := (l1 0 (by decide) (by decide)).trans x0
  have y5 := x5.loc (l1 5 (by decide) (by decide)) (l1 6 (by decide) (by decide)) (l1 7 (by decide) (by decide))
  have y28 := x28.loc (l1 28 (by decide) (by decide)) (l1 29 (by decide) (by decide)) (l1 30 (by decide) (by decide))
  have f28 := y28.2.1
  refine k_aload_n (pc' := 12) dX9_image_11 rfl ?_
  refine p_get (pc' := 15) clX9 (Nat.le_of_ble_eq_true rfl) fl_RX9_38 dX9_image_12 (by first | assumption | decide | omega) (by assumption) rfl ?_
  refine k_aload_n (pc' := 16) dX9_image_15 rfl ?_
  refine p_get (pc' := 19) clX9 (Nat.le_of_ble_eq_true rfl) fl_RX9_24 dX9_image_16 (by first | assumption | decide | omega) (by assumption) rfl ?_
  refine p_vV (ν := mX2_copyFrom) (pc' := 22) dX9_image_19 ml_RX9_311 mo_X2_copyFrom mv_X2_copyFrom clX2 (Nat.le_of_ble_eq_true rfl) rfl rfl (Nat.le_of_ble_eq_true rfl) (by first | assumption | decide | omega) (by assumption) (by decide) (c_plCopy y28 y5 (by decide)) ?_
  obtain ⟨X, hXX⟩ : ∃ X, X = va_cpy B.1 I.2.2.1 0 0 6 := ⟨_, rfl⟩
  obtain ⟨Y, hYY⟩ : ∃ Y, Y = va_cpy B.2 I.2.2.2 0 0 6 := ⟨_, rfl⟩
  rw [← hXX, ← hYY]
  obtain ⟨σ2, hs2⟩ : ∃ σ2, σ2 = putP G σ1 28 X Y := ⟨_, rfl⟩
  rw [← hs2]
  have l2 : ∀ q, q ≠ 29 → q ≠ 30 → σ2 q = σ1 q := fun q a b => by rw [hs2]; exact putP_n a b
  have w0 : σ2 0 = ob 9 (xFs G I.1) := (l2 0 (by decide) (by decide)).trans y0
  have o0 : va_up σ2 0 (ob 9 (xFs G 1)) 0 = ob 9 (xFs G 1) := up_s
  have l3 : ∀ q, q ≠ 0 → q < 26 ∨ 31 ≤ q → va_up σ2 0 (ob 9 (xFs G 1)) q = σ q := fun q a b => (up_n a).trans ((l2 q (by omega) (by omega)).trans (l1 q (by omega) (by omega)))
  have z1 := x1.loc (l3 1 (by decide) (by decide)) (l3 2 (by decide) (by decide))
  have f1 := z1.2.2.1
  refine k_aload_n (pc' := 23) dX9_image_22 rfl ?_
  refine k_iconst (pc' := 24) (v := nI 1) dX9_image_23 rfl ?_
  refine p_putI (pc' := 27) (σ1 := va_up σ2 0 (ob 9 (xFs G 1))) clX9 (Nat.le_of_ble_eq_true rfl) fl_RX9_41 dX9_image_24 rfl (Or.inr ⟨rfl, Or.inr rfl⟩) (by first | assumption | decide | omega) (by assumption) (Nat.le_of_ble_eq_true rfl) (by exact rfl) ?_
  refine k_aload_n (pc' := 28) dX9_image_27 rfl ?_
  refine p_get (pc' := 31) clX9 (Nat.le_of_ble_eq_true rfl) fl_RX9_12 dX9_image_28 (by first | assumption | decide | omega) (by assumption) rfl ?_
  refine p_get (pc' := 34) clX6 (Nat.le_of_ble_eq_true rfl) fl_RX9_87 dX9_image_31 (by first | assumption | decide | omega) (by assumption) rfl ?_
  refine p_ireturn dX9_image_34 rfl ?_
  refine ⟨rfl, ⟨o0, z1, ⟨M0, g0, x3.loc (l3 _ (by decide) (by decide)) (l3 _ (by decide) (by decide))⟩, x5.loc (l3 _ (by decide) (by decide)) (l3 _ (by decide) (by decide)) (l3 _ (by decide) (by decide)), x8.loc (fun q a b => l3 q (by omega) (by omega)), ?_, ?_, (l3 _ (by decide) (by decide)).trans x31, fun k hk => (xh k hk).loc (l3 _ (by omega) (by omega)) (l3 _ (by omega) (by omega)), ⟨sp, putTp.loc xt (l3 _ (by decide) (by decide)) (l3 _ (by decide) (by decide))⟩, xs.loc (fun q a b => l3 q (by omega) (by omega))⟩, fun q hq => l3 q (by omega) (by omega)⟩
  · dsimp only
    refine (show isT G σ1 26 A.1 f from by rw [hs1]; exact putT_T x26 hN2 hN6).loc ?_ ?_
    · exact (up_n (by decide)).trans (l2 _ (by decide) (by decide))
    · exact (up_n (by decide)).trans (l2 _ (by decide) (by decide))
  · dsimp only
    refine (show isPl G σ2 28 X Y from by rw [hs2]; exact putP_P y28).loc ?_ ?_ ?_
    · exact up_n (by decide)
    · exact up_n (by decide)
    · exact up_n (by decide)
theorem x_undo (h : isX G σ A B C I H T) : ConP G mX9_undo 2 [.ref (adr G 0)] σ (fun v σ' => (I.1 = 0 ∧ xI G σ (-5) A B C I H T v σ') ∨ (¬ I.1 = 0 ∧ xI G σ (nI I.2.1.1) (I.2.1.1, va_cpy I.2.1.2 A.2 0 0 15) (va_cpy I.2.2.1 B.1 0 0 6, va_cpy I.2.2.2 B.2 0 0 6) (C.1, 0, C.2.2.1, C.2.2.2) I H T v σ')) := by
  have hX := h
  obtain ⟨x0, x1, ⟨M0, g0, x3⟩, x5, x8, x26, x28, x31, xh, ⟨sp, xt⟩, xs⟩ := h
  have e1 := x1.2.2.1
  have e5 := x5.2.1
  have e26 := x26.2.2.1
  have hN2 := x26.2.2.2.2.1
  have hN6 := x26.2.2.2.2.2
  refine ConP.of rfl (Nat.le_of_ble_eq_true rfl) ?_
  by_cases hk : I.1 = 0
  · refine k_aload_n (pc' := 1) dX9_undo_0 rfl ?_
    refine p_get (pc' := 4) clX9 (Nat.le_of_ble_eq_true rfl) fl_RX9_41 dX9_undo_1 (by first | assumption | decide | omega) (by assumption) rfl ?_
    refine k_if_ne (tgt := 10) (pc' := 7) dX9_undo_4 rfl (fun zz_ => absurd hk zz_) (fun _ => ?_)
    refine k_bipush (pc' := 9) (v := -5) dX9_undo_7 rfl ?_
    refine p_ireturn dX9_undo_9 rfl ?_
    exact Or.inl ⟨hk, rfl, hX, hi.rfl'⟩
  refine k_aload_n (pc' := 1) dX9_undo_0 rfl ?_
  refine p_get (pc' := 4) clX9 (Nat.le_of_ble_eq_true rfl) fl_RX9_41 dX9_undo_1 (by first | assumption | decide | omega) (by assumption) rfl ?_
  refine k_if_ne (tgt := 10) (pc' := 7) dX9_undo_4 rfl (fun _ => ?_) (fun zz_ => absurd zz_ hk)
  refine k_aload_n (pc' := 11) dX9_undo_10 rfl ?_
  refine p_get (pc' := 14) clX9 (Nat.le_of_ble_eq_true rfl) fl_RX9_12 dX9_undo_11 (by first | assumption | decide | omega) (by assumption) rfl ?_
  refine k_aload_n (pc' := 15) dX9_undo_14 rfl ?_
  refine p_get (pc' := 18) clX9 (Nat.le_of_ble_eq_true rfl) fl_RX9_35 dX9_undo_15 (by first | assumption | decide | omega) (by assumption) rfl ?_
  refine p_vV (ν := mX6_copyFrom) (pc' := 21) dX9_undo_18 ml_RX9_109 mo_X6_copyFrom mv_X6_copyFrom clX6 (Nat.le_of_ble_eq_true rfl) rfl rfl (Nat.le_of_ble_eq_true rfl) (by first | assumption | decide | omega) (by assumption) (by decide) (c_copyFrom x1 x26 (by decide) (by decide) (by decide)) ?_
  obtain ⟨f, hf⟩ : ∃ f, f = va_cpy I.2.1.2 A.2 0 0 15 := ⟨_, rfl⟩
  rw [← hf]
  obtain ⟨σ1, hs1⟩ : ∃ σ1, σ1 = putT G σ 1 I.2.1.1 f := ⟨_, rfl⟩
  rw [← hs1]
  have l1 : ∀ q, q ≠ 1 → q ≠ 2 → σ1 q = σ q := fun q a b => by rw [hs1]; exact putT_n a b
  have t1 : isT G σ1 1 I.2.1.1 f := by rw [hs1]; exact putT_T x1 hN2 hN6
  have y0 := (l1 0 (by decide) (by decide)).trans x0
  have y5 := x5.loc (l1 5 (by decide) (by decide)) (l1 6 (by decide) (by decide)) (l1 7 (by decide) (by decide))
  have y28 := x28.loc (l1 28 (by decide) (by decide)) (l1 29 (by decide) (by decide)) (l1 30 (by decide) (by decide))
  have f5 := y5.2.1
  refine k_aload_n (pc' := 22) dX9_undo_21 rfl ?_
  refine p_get (pc' := 25) clX9 (Nat.le_of_ble_eq_true rfl) fl_RX9_24 dX9_undo_22 (by first | assumption | decide | omega) (by assumption) rfl ?_
  refine k_aload_n (pc' := 26) dX9_undo_25 rfl ?_
  refine p_get (pc' := 29) clX9 (Nat.le_of_ble_eq_true rfl) fl_RX9_38 dX9_undo_26 (by first | assumption | decide | omega) (by assumption) rfl ?_
  refine p_vV (ν := mX2_copyFrom) (pc' := 32) dX9_undo_29 ml_RX9_311 mo_X2_copyFrom mv_X2_copyFrom clX2 (Nat.le_of_ble_eq_true rfl) rfl rfl (Nat.le_of_ble_eq_true rfl) (by first | assumption | decide | omega) (by assumption) (by decide) (c_plCopy y5 y28 (by decide)) ?_
  obtain ⟨X, hXX⟩ : ∃ X, X = va_cpy I.2.2.1 B.1 0 0 6 := ⟨_, rfl⟩
  obtain ⟨Y, hYY⟩ : ∃ Y, Y = va_cpy I.2.2.2 B.2 0 0 6 := ⟨_, rfl⟩
  rw [← hXX, ← hYY]
  obtain ⟨σ2, hs2⟩ : ∃ σ2, σ2 = putP G σ1 5 X Y := ⟨_, rfl⟩
  rw [← hs2]
  have l2 : ∀ q, q ≠ 6 → q ≠ 7 → σ2 q = σ1 q := fun q a b => by rw [hs2]; exact putP_n a b
  have l3 : ∀ q, q = 0 ∨ 3 ≤ q ∧ q < 6 ∨ 8 ≤ q → σ2 q = σ q := fun q a => (l2 q (by omega) (by omega)).trans (l1 q (by omega) (by omega))
  have w0 : σ2 0 = ob 9 (xFs G I.1) := (l3 0 (by decide)).trans x0
  have w8 : isDe G σ2 C.1 C.2.1 C.2.2.1 C.2.2.2 := x8.loc (fun q a b => l3 q (by omega))
  have f8 := w8.1
  refine k_aload_n (pc' := 33) dX9_undo_32 rfl ?_
  refine p_get (pc' := 36) clX9 (Nat.le_of_ble_eq_true rfl) fl_RX9_31 dX9_undo_33 (by first | assumption | decide | omega) (by assumption) rfl ?_
  refine p_vV (ν := mX0_forget) (pc' := 39) dX9_undo_36 ml_RX9_98 mo_X0_forget mv_X0_forget clX0 (Nat.le_of_ble_eq_true rfl) rfl rfl (Nat.le_of_ble_eq_true rfl) (by first | assumption | decide | omega) (by assumption) (by decide) (c_forget w8) ?_
  have v0 : va_up σ2 8 (ob 0 [.ref (adr G 9), .int (nI C.1), .int (nI 0)]) 0 = ob 9 (xFs G I.1) := (up_n (by decide)).trans w0
  have v1 : isT G (va_up σ2 8 (ob 0 [.ref (adr G 9), .int (nI C.1), .int (nI 0)])) 1 I.2.1.1 f := t1.loc ((up_n (by decide)).trans (l2 _ (by decide) (by decide))) ((up_n (by decide)).trans (l2 _ (by decide) (by decide)))
  have g1 := v1.2.2.1
  refine k_aload_n (pc' := 40) dX9_undo_39 rfl ?_
  refine p_get (pc' := 43) clX9 (Nat.le_of_ble_eq_true rfl) fl_RX9_12 dX9_undo_40 (by first | assumption | decide | omega) (by assumption) rfl ?_
  refine p_get (pc' := 46) clX6 (Nat.le_of_ble_eq_true rfl) fl_RX9_87 dX9_undo_43 (by first | assumption | decide | omega) (by assumption) rfl ?_
  refine p_ireturn dX9_undo_46 rfl ?_
  refine Or.inr ⟨hk, rfl, hX.dist ?_ ?_ ?_ ?_ ?_ ?_, ?_⟩
  · exact v0.trans x0.symm
  · exact v1
  · exact ⟨M0, g0, x3.loc ((up_n (by decide)).trans (l3 _ (by decide))) ((up_n (by decide)).trans (l3 _ (by decide)))⟩
  · exact (show isPl G σ2 5 X Y from by rw [hs2]; exact putP_P y5).loc (up_n (by decide)) (up_n (by decide)) (up_n (by decide))
  · exact w8.sized w8.2.2.2.1 (Nat.zero_le _)
  · exact fun q a b => (up_n (by omega)).trans (l3 q (by omega))
  · exact fun q a => (up_n (by omega)).trans (l3 q (by omega))
end X12
