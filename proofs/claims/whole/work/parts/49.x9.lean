section X9
variable {G : GT} {σ σ' : Sto} {A : XA} {B : XB} {C : XC} {I : XI} {H : XH} {T : XT}
theorem putH_k {t kd op S k : Nat} {nu : Nat → Int32} (h : isH G σ t kd op S nu) : va_up σ t (ob 1 [.int (nI k), .int (nI op), .int (nI S), .ref (adr G (t + 1))]) = putH G σ t k op S nu := by
  unfold putH
  exact (up_id ((up_n (by omega)).trans h.2.2.1)).symm
theorem putH_nu {t kd op S : Nat} {nu f : Nat → Int32} (h : isH G σ t kd op S nu) : va_up σ (t + 1) (aI G 20 f) = putH G σ t kd op S f := by
  unfold putH
  rw [up_id h.2.1]
theorem x_hold (h : isX G σ A B C I H T) {x : Int32} : ConP G mX9_hold 2 [.ref (adr G 0), .int x] σ (fun v σ' => (¬ (0 ≤ x.toInt ∧ x.toInt ≤ 5) ∧ xI G σ (-1) A B C I H T v σ') ∨ ∃ h, x = nI h ∧ h < 6 ∧ xI G σ (nI A.1) A B C I (va_up H.1 h 1, va_up H.2.1 h A.1, va_up H.2.2.1 h (pN A.1), va_up H.2.2.2 h (va_cpy A.2 (H.2.2.2 h) 0 0 (pN A.1))) T v σ') := by
  have hX := h
  obtain ⟨x0, x1, -, -, -, -, -, x31, xh, -⟩ := h
  have e1 := x1.2.2.1
  have e2 := x1.2.2.2.1
  have hN6 := x1.2.2.2.2.2
  have hpn := pN_le hN6
  have hkW : kW = 104 := rfl
  refine ConP.of rfl (Nat.le_of_ble_eq_true rfl) ?_
  refine k_iload_n (pc' := 1) dX9_hold_0 rfl ?_
  refine p_sI (ν := mX9_isHolder) (pc' := 4) dX9_hold_1 ml_RX9_206 mo_X9_isHolder ms_X9_isHolder (Nat.le_of_ble_eq_true rfl) rfl rfl (Nat.le_of_ble_eq_true rfl) (by decide) (x_isHolder) ?_
  refine k_if_ne (tgt := 9) (pc' := 7) dX9_hold_4 rfl (fun c_4 => ?_) (fun c_4 => ?_)
  rotate_left
  · rw [bI_eq] at c_4
    refine k_iconst (pc' := 8) (v := -1) dX9_hold_7 rfl ?_
    refine p_ireturn dX9_hold_8 rfl ?_
    exact Or.inl ⟨c_4, rfl, hX, hi.rfl'⟩
  rw [bI_ne] at c_4
  obtain ⟨h, hh, rfl⟩ := nI_in0 (n := 6) (x := x) (by omega) (by omega) (by decide)
  have yh := xh h hh
  have e32 := yh.2.1
  refine k_aload_n (pc' := 10) dX9_hold_9 rfl ?_
  refine p_get (pc' := 13) clX9 (Nat.le_of_ble_eq_true rfl) fl_RX9_47 dX9_hold_10 (by first | assumption | decide | omega) (by assumption) rfl ?_
  refine k_iload_n (pc' := 14) dX9_hold_13 rfl ?_
  refine p_aaldN (pc' := 15) (t0 := 4) dX9_hold_14 rfl rfl (by first | assumption | decide | omega) (by assumption) (by decide) (by omega) ?_
  refine k_iconst (pc' := 16) (v := nI 1) dX9_hold_15 rfl ?_
  refine k_aload_n (pc' := 17) dX9_hold_16 rfl ?_
  refine p_get (pc' := 20) clX9 (Nat.le_of_ble_eq_true rfl) fl_RX9_12 dX9_hold_17 (by first | assumption | decide | omega) (by assumption) rfl ?_
  refine p_get (pc' := 23) clX6 (Nat.le_of_ble_eq_true rfl) fl_RX9_87 dX9_hold_20 (by first | assumption | decide | omega) (by assumption) rfl ?_
  refine k_aload_n (pc' := 24) dX9_hold_23 rfl ?_
  refine p_get (pc' := 27) clX9 (Nat.le_of_ble_eq_true rfl) fl_RX9_12 dX9_hold_24 (by first | assumption | decide | omega) (by assumption) rfl ?_
  refine p_vI (ν := mX6_pairCount) (pc' := 30) dX9_hold_27 ml_RX9_132 mo_X6_pairCount mv_X6_pairCount clX6 (Nat.le_of_ble_eq_true rfl) rfl rfl (Nat.le_of_ble_eq_true rfl) (by first | assumption | decide | omega) (by assumption) (by decide) (c_pairCount x1) ?_
  refine k_aload_n (pc' := 31) dX9_hold_30 rfl ?_
  refine p_get (pc' := 34) clX9 (Nat.le_of_ble_eq_true rfl) fl_RX9_12 dX9_hold_31 (by first | assumption | decide | omega) (by assumption) rfl ?_
  refine p_get (pc' := 37) clX6 (Nat.le_of_ble_eq_true rfl) fl_RX9_113 dX9_hold_34 (by first | assumption | decide | omega) (by assumption) rfl ?_
  refine p_vV (ν := mX1_take) (pc' := 40) dX9_hold_37 ml_RX9_209 mo_X1_take mv_X1_take clX1 (Nat.le_of_ble_eq_true rfl) rfl rfl (Nat.le_of_ble_eq_true rfl) (by first | assumption | decide | omega) (by assumption) (by decide) (c_take yh (k := 1) (o := A.1) (s := pN A.1) (q := 1 + 1) (L := 15) (f := A.2) (by decide) (by omega) e2 (by omega) (by omega) (by decide)) ?_
  have zX := hX.hold hh (kd := 1) (op := A.1) (S := pN A.1) (nu := va_cpy A.2 (H.2.2.2 h) 0 0 (pN A.1)) (by omega)
  have z0 := zX.1
  have z1 := zX.2.1.2.2.1
  refine k_aload_n (pc' := 41) dX9_hold_40 rfl ?_
  refine p_get (pc' := 44) clX9 (Nat.le_of_ble_eq_true rfl) fl_RX9_12 dX9_hold_41 (by first | assumption | decide | omega) (by assumption) rfl ?_
  refine p_get (pc' := 47) clX6 (Nat.le_of_ble_eq_true rfl) fl_RX9_87 dX9_hold_44 (by first | assumption | decide | omega) (by assumption) rfl ?_
  refine p_ireturn dX9_hold_47 rfl ?_
  exact Or.inr ⟨h, rfl, hh, rfl, zX, fun q hq => putH_n (by omega) (by omega)⟩
theorem x_lose (h : isX G σ A B C I H T) {x : Int32} : ConP G mX9_lose 2 [.ref (adr G 0), .int x] σ (fun v σ' => (¬ (0 ≤ x.toInt ∧ x.toInt ≤ 5) ∧ xI G σ (-1) A B C I H T v σ') ∨ ∃ h, x = nI h ∧ h < 6 ∧ xI G σ (nI (H.1 h)) A B C I (va_up H.1 h 0, va_up H.2.1 h (H.2.1 h), va_up H.2.2.1 h (H.2.2.1 h), va_up H.2.2.2 h (H.2.2.2 h)) T v σ') := by
  have hX := h
  obtain ⟨x0, x1, -, -, -, -, -, x31, xh, -⟩ := h
  have hkW : kW = 104 := rfl
  refine ConP.of rfl (Nat.le_of_ble_eq_true rfl) ?_
  refine k_iload_n (pc' := 1) dX9_lose_0 rfl ?_
  refine p_sI (ν := mX9_isHolder) (pc' := 4) dX9_lose_1 ml_RX9_206 mo_X9_isHolder ms_X9_isHolder (Nat.le_of_ble_eq_true rfl) rfl rfl (Nat.le_of_ble_eq_true rfl) (by decide) (x_isHolder) ?_
  refine k_if_ne (tgt := 9) (pc' := 7) dX9_lose_4 rfl (fun c_4 => ?_) (fun c_4 => ?_)
  rotate_left
  · rw [bI_eq] at c_4
    refine k_iconst (pc' := 8) (v := -1) dX9_lose_7 rfl ?_
    refine p_ireturn dX9_lose_8 rfl ?_
    exact Or.inl ⟨c_4, rfl, hX, hi.rfl'⟩
  rw [bI_ne] at c_4
  obtain ⟨h, hh, rfl⟩ := nI_in0 (n := 6) (x := x) (by omega) (by omega) (by decide)
  have yh := xh h hh
  have e32 := yh.2.1
  refine k_aload_n (pc' := 10) dX9_lose_9 rfl ?_
  refine p_get (pc' := 13) clX9 (Nat.le_of_ble_eq_true rfl) fl_RX9_47 dX9_lose_10 (by first | assumption | decide | omega) (by assumption) rfl ?_
  refine k_iload_n (pc' := 14) dX9_lose_13 rfl ?_
  refine p_aaldN (pc' := 15) (t0 := 4) dX9_lose_14 rfl rfl (by first | assumption | decide | omega) (by assumption) (by decide) (by omega) ?_
  refine p_get (pc' := 18) clX1 (Nat.le_of_ble_eq_true rfl) fl_RX9_297 dX9_lose_15 (by first | assumption | decide | omega) (by assumption) rfl ?_
  refine k_istore_n (pc' := 19) dX9_lose_18 (Nat.le_of_ble_eq_true rfl) rfl ?_
  refine k_aload_n (pc' := 20) dX9_lose_19 rfl ?_
  refine p_get (pc' := 23) clX9 (Nat.le_of_ble_eq_true rfl) fl_RX9_47 dX9_lose_20 (by first | assumption | decide | omega) (by assumption) rfl ?_
  refine k_iload_n (pc' := 24) dX9_lose_23 rfl ?_
  refine p_aaldN (pc' := 25) (t0 := 4) dX9_lose_24 rfl rfl (by first | assumption | decide | omega) (by assumption) (by decide) (by omega) ?_
  refine k_iconst (pc' := 26) (v := nI 0) dX9_lose_25 rfl ?_
  refine p_putI (pc' := 29) (σ1 := putH G σ (32 + 2 * h) 0 (H.2.1 h) (H.2.2.1 h) (H.2.2.2 h)) clX1 (Nat.le_of_ble_eq_true rfl) fl_RX9_297 dX9_lose_26 rfl (Or.inl rfl) (by first | assumption | decide | omega) (by assumption) (Nat.le_of_ble_eq_true rfl) (by exact (putH_k yh)) ?_
  refine k_iload_n (pc' := 30) dX9_lose_29 rfl ?_
  refine p_ireturn dX9_lose_30 rfl ?_
  have zX := hX.hold hh (kd := 0) (op := H.2.1 h) (S := H.2.2.1 h) (nu := H.2.2.2 h) yh.2.2.2
  exact Or.inr ⟨h, rfl, hh, rfl, zX, fun q hq => putH_n (by omega) (by omega)⟩
def xTk (H : XH) (h : Nat) (y : Int32) : Int32 := if nI (H.1 h) = 0 then -11 else if y = 0 ∧ nI (H.1 h) = nI 1 then wSum (H.2.2.1 h) (H.2.2.2 h) else if y = nI 1 ∧ nI (H.1 h) = nI 2 then wWid (H.2.2.1 h) (H.2.2.2 h) else if y = nI 2 ∧ ¬ nI (H.1 h) = nI 3 then nI (H.2.1 h) else -12
theorem x_taken (h : isX G σ A B C I H T) {x y : Int32} : ConP G mX9_taken 2 [.ref (adr G 0), .int x, .int y] σ (fun v σ' => (¬ ((0 ≤ x.toInt ∧ x.toInt ≤ 5) ∧ (0 ≤ y.toInt ∧ y.toInt ≤ 2)) ∧ xI G σ (-1) A B C I H T v σ') ∨ ∃ h, x = nI h ∧ h < 6 ∧ (0 ≤ y.toInt ∧ y.toInt ≤ 2) ∧ xI G σ (xTk H h y) A B C I H T v σ') := by
  have hX := h
  obtain ⟨x0, x1, -, -, -, -, -, x31, xh, -⟩ := h
  have hkW : kW = 104 := rfl
  refine ConP.of rfl (Nat.le_of_ble_eq_true rfl) ?_
  refine k_iload_n (pc' := 1) dX9_taken_0 rfl ?_
  refine p_sI (ν := mX9_isHolder) (pc' := 4) dX9_taken_1 ml_RX9_206 mo_X9_isHolder ms_X9_isHolder (Nat.le_of_ble_eq_true rfl) rfl rfl (Nat.le_of_ble_eq_true rfl) (by decide) (x_isHolder) ?_
  refine k_if_eq (tgt := 16) (pc' := 7) dX9_taken_4 rfl (fun c_4 => ?_) (fun c_4 => ?_)
  · rw [bI_eq] at c_4
    refine k_iconst (pc' := 17) (v := -1) dX9_taken_16 rfl ?_
    refine p_ireturn dX9_taken_17 rfl ?_
    exact Or.inl ⟨fun q => c_4 q.1, rfl, hX, hi.rfl'⟩
  rw [bI_ne] at c_4
  refine k_iload_n (pc' := 8) dX9_taken_7 rfl ?_
  refine k_if_lt (tgt := 16) (pc' := 11) dX9_taken_8 rfl (fun c_8 => ?_) (fun c_8 => ?_)
  · rw [iLt, i0] at c_8
    refine k_iconst (pc' := 17) (v := -1) dX9_taken_16 rfl ?_
    refine p_ireturn dX9_taken_17 rfl ?_
    exact Or.inl ⟨fun q => by omega, rfl, hX, hi.rfl'⟩
  rw [iLt, i0] at c_8
  refine k_iload_n (pc' := 12) dX9_taken_11 rfl ?_
  refine k_iconst (pc' := 13) (v := nI 2) dX9_taken_12 rfl ?_
  refine k_icmp_le (tgt := 18) (pc' := 16) dX9_taken_13 rfl (fun c_13 => ?_) (fun c_13 => ?_)
  rotate_left
  · rw [iLe, nI_e (by decide)] at c_13
    refine k_iconst (pc' := 17) (v := -1) dX9_taken_16 rfl ?_
    refine p_ireturn dX9_taken_17 rfl ?_
    exact Or.inl ⟨fun q => by omega, rfl, hX, hi.rfl'⟩
  rw [iLe, nI_e (by decide)] at c_13
  obtain ⟨h, hh, rfl⟩ := nI_in0 (n := 6) (x := x) (by omega) (by omega) (by decide)
  have yh := xh h hh
  have e32 := yh.2.1
  have done : ∀ v, v = xTk H h y → (fun v σ' => (¬ ((0 ≤ (nI h).toInt ∧ (nI h).toInt ≤ 5) ∧ (0 ≤ y.toInt ∧ y.toInt ≤ 2)) ∧ xI G σ (-1) A B C I H T v σ') ∨ ∃ h', nI h = nI h' ∧ h' < 6 ∧ (0 ≤ y.toInt ∧ y.toInt ≤ 2) ∧ xI G σ (xTk H h' y) A B C I H T v σ') (some (.int v)) σ := by
    intro v hv
    exact Or.inr ⟨h, rfl, hh, ⟨by omega, by omega⟩, by rw [hv], hX, hi.rfl'⟩
  unfold xTk at done
  by_cases h0 : nI (H.1 h) = 0
  · refine k_aload_n (pc' := 19) dX9_taken_18 rfl ?_
    refine p_get (pc' := 22) clX9 (Nat.le_of_ble_eq_true rfl) fl_RX9_47 dX9_taken_19 (by first | assumption | decide | omega) (by assumption) rfl ?_
    refine k_iload_n (pc' := 23) dX9_taken_22 rfl ?_
    refine p_aaldN (pc' := 24) (t0 := 4) dX9_taken_23 rfl rfl (by first | assumption | decide | omega) (by assumption) (by decide) (by omega) ?_
    refine k_astore_n (pc' := 25) dX9_taken_24 (Nat.le_of_ble_eq_true rfl) rfl ?_
    refine k_aload_n (pc' := 26) dX9_taken_25 rfl ?_
    refine p_get (pc' := 29) clX1 (Nat.le_of_ble_eq_true rfl) fl_RX9_297 dX9_taken_26 (by first | assumption | decide | omega) (by assumption) rfl ?_
    refine k_if_ne (tgt := 35) (pc' := 32) dX9_taken_29 rfl (fun zz_ => absurd h0 zz_) (fun _ => ?_)
    refine k_bipush (pc' := 34) (v := -11) dX9_taken_32 rfl ?_
    refine p_ireturn dX9_taken_34 rfl ?_
    exact done _ (by rw [if_pos h0])
  rw [if_neg h0] at done
  by_cases h1 : y = 0
  · by_cases h2 : nI (H.1 h) = nI 1
    · refine k_aload_n (pc' := 19) dX9_taken_18 rfl ?_
      refine p_get (pc' := 22) clX9 (Nat.le_of_ble_eq_true rfl) fl_RX9_47 dX9_taken_19 (by first | assumption | decide | omega) (by assumption) rfl ?_
      refine k_iload_n (pc' := 23) dX9_taken_22 rfl ?_
      refine p_aaldN (pc' := 24) (t0 := 4) dX9_taken_23 rfl rfl (by first | assumption | decide | omega) (by assumption) (by decide) (by omega) ?_
      refine k_astore_n (pc' := 25) dX9_taken_24 (Nat.le_of_ble_eq_true rfl) rfl ?_
      refine k_aload_n (pc' := 26) dX9_taken_25 rfl ?_
      refine p_get (pc' := 29) clX1 (Nat.le_of_ble_eq_true rfl) fl_RX9_297 dX9_taken_26 (by first | assumption | decide | omega) (by assumption) rfl ?_
      refine k_if_ne (tgt := 35) (pc' := 32) dX9_taken_29 rfl (fun _ => ?_) (fun zz_ => absurd zz_ h0)
      refine k_iload_n (pc' := 36) dX9_taken_35 rfl ?_
      refine k_if_ne (tgt := 52) (pc' := 39) dX9_taken_36 rfl (fun zz_ => absurd h1 zz_) (fun _ => ?_)
      refine k_aload_n (pc' := 40) dX9_taken_39 rfl ?_
      refine p_get (pc' := 43) clX1 (Nat.le_of_ble_eq_true rfl) fl_RX9_297 dX9_taken_40 (by first | assumption | decide | omega) (by assumption) rfl ?_
      refine k_iconst (pc' := 44) (v := nI 1) dX9_taken_43 rfl ?_
      refine k_icmp_ne (tgt := 52) (pc' := 47) dX9_taken_44 rfl (fun zz_ => absurd h2 zz_) (fun _ => ?_)
      refine k_aload_n (pc' := 48) dX9_taken_47 rfl ?_
      refine p_vI (ν := mX1_together) (pc' := 51) dX9_taken_48 ml_RX9_300 mo_X1_together mv_X1_together clX1 (Nat.le_of_ble_eq_true rfl) rfl rfl (Nat.le_of_ble_eq_true rfl) (by first | assumption | decide | omega) (by assumption) (by decide) (c_hoTogether yh) ?_
      refine p_ireturn dX9_taken_51 rfl ?_
      exact done _ (by rw [if_pos ⟨h1, h2⟩])
    · refine k_aload_n (pc' := 19) dX9_taken_18 rfl ?_
      refine p_get (pc' := 22) clX9 (Nat.le_of_ble_eq_true rfl) fl_RX9_47 dX9_taken_19 (by first | assumption | decide | omega) (by assumption) rfl ?_
      refine k_iload_n (pc' := 23) dX9_taken_22 rfl ?_
      refine p_aaldN (pc' := 24) (t0 := 4) dX9_taken_23 rfl rfl (by first | assumption | decide | omega) (by assumption) (by decide) (by omega) ?_
      refine k_astore_n (pc' := 25) dX9_taken_24 (Nat.le_of_ble_eq_true rfl) rfl ?_
      refine k_aload_n (pc' := 26) dX9_taken_25 rfl ?_
      refine p_get (pc' := 29) clX1 (Nat.le_of_ble_eq_true rfl) fl_RX9_297 dX9_taken_26 (by first | assumption | decide | omega) (by assumption) rfl ?_
      refine k_if_ne (tgt := 35) (pc' := 32) dX9_taken_29 rfl (fun _ => ?_) (fun zz_ => absurd zz_ h0)
      refine k_iload_n (pc' := 36) dX9_taken_35 rfl ?_
      refine k_if_ne (tgt := 52) (pc' := 39) dX9_taken_36 rfl (fun zz_ => absurd h1 zz_) (fun _ => ?_)
      refine k_aload_n (pc' := 40) dX9_taken_39 rfl ?_
      refine p_get (pc' := 43) clX1 (Nat.le_of_ble_eq_true rfl) fl_RX9_297 dX9_taken_40 (by first | assumption | decide | omega) (by assumption) rfl ?_
      refine k_iconst (pc' := 44) (v := nI 1) dX9_taken_43 rfl ?_
      refine k_icmp_ne (tgt := 52) (pc' := 47) dX9_taken_44 rfl (fun _ => ?_) (fun zz_ => absurd zz_ h2)
      refine k_iload_n (pc' := 53) dX9_taken_52 rfl ?_
      refine k_iconst (pc' := 54) (v := nI 1) dX9_taken_53 rfl ?_
      refine k_icmp_ne (tgt := 70) (pc' := 57) dX9_taken_54 rfl (fun _ => ?_) (fun zz_ => absurd zz_ (by rw [h1]; decide))
      refine k_iload_n (pc' := 71) dX9_taken_70 rfl ?_
      refine k_iconst (pc' := 72) (v := nI 2) dX9_taken_71 rfl ?_
      refine k_icmp_ne (tgt := 88) (pc' := 75) dX9_taken_72 rfl (fun _ => ?_) (fun zz_ => absurd zz_ (by rw [h1]; decide))
      refine k_bipush (pc' := 90) (v := -12) dX9_taken_88 rfl ?_
      refine p_ireturn dX9_taken_90 rfl ?_
      exact done _ (by rw [if_neg (fun q => h2 q.2), if_neg (fun q => absurd q.1 (by rw [h1]; decide)), if_neg (fun q => absurd q.1 (by rw [h1]; decide))])
  rw [if_neg (fun q => h1 q.1)] at done
  by_cases h3 : y = nI 1
  · by_cases h2 : nI (H.1 h) = nI 2
    · refine k_aload_n (pc' := 19) dX9_taken_18 rfl ?_
      refine p_get (pc' := 22) clX9 (Nat.le_of_ble_eq_true rfl) fl_RX9_47 dX9_taken_19 (by first | assumption | decide | omega) (by assumption) rfl ?_
      refine k_iload_n (pc' := 23) dX9_taken_22 rfl ?_
      refine p_aaldN (pc' := 24) (t0 := 4) dX9_taken_23 rfl rfl (by first | assumption | decide | omega) (by assumption) (by decide) (by omega) ?_
      refine k_astore_n (pc' := 25) dX9_taken_24 (Nat.le_of_ble_eq_true rfl) rfl ?_
      refine k_aload_n (pc' := 26) dX9_taken_25 rfl ?_
      refine p_get (pc' := 29) clX1 (Nat.le_of_ble_eq_true rfl) fl_RX9_297 dX9_taken_26 (by first | assumption | decide | omega) (by assumption) rfl ?_
      refine k_if_ne (tgt := 35) (pc' := 32) dX9_taken_29 rfl (fun _ => ?_) (fun zz_ => absurd zz_ h0)
      refine k_iload_n (pc' := 36) dX9_taken_35 rfl ?_
      refine k_if_ne (tgt := 52) (pc' := 39) dX9_taken_36 rfl (fun _ => ?_) (fun zz_ => absurd zz_ h1)
      refine k_iload_n (pc' := 53) dX9_taken_52 rfl ?_
      refine k_iconst (pc' := 54) (v := nI 1) dX9_taken_53 rfl ?_
      refine k_icmp_ne (tgt := 70) (pc' := 57) dX9_taken_54 rfl (fun zz_ => absurd h3 zz_) (fun _ => ?_)
      refine k_aload_n (pc' := 58) dX9_taken_57 rfl ?_
      refine p_get (pc' := 61) clX1 (Nat.le_of_ble_eq_true rfl) fl_RX9_297 dX9_taken_58 (by first | assumption | decide | omega) (by assumption) rfl ?_
      refine k_iconst (pc' := 62) (v := nI 2) dX9_taken_61 rfl ?_
      refine k_icmp_ne (tgt := 70) (pc' := 65) dX9_taken_62 rfl (fun zz_ => absurd h2 zz_) (fun _ => ?_)
      refine k_aload_n (pc' := 66) dX9_taken_65 rfl ?_
      refine p_vI (ν := mX1_width) (pc' := 69) dX9_taken_66 ml_RX9_213 mo_X1_width mv_X1_width clX1 (Nat.le_of_ble_eq_true rfl) rfl rfl (Nat.le_of_ble_eq_true rfl) (by first | assumption | decide | omega) (by assumption) (by decide) (c_width yh) ?_
      refine p_ireturn dX9_taken_69 rfl ?_
      exact done _ (by rw [if_pos ⟨h3, h2⟩])
    · refine k_aload_n (pc' := 19) dX9_taken_18 rfl ?_
      refine p_get (pc' := 22) clX9 (Nat.le_of_ble_eq_true rfl) fl_RX9_47 dX9_taken_19 (by first | assumption | decide | omega) (by assumption) rfl ?_
      refine k_iload_n (pc' := 23) dX9_taken_22 rfl ?_
      refine p_aaldN (pc' := 24) (t0 := 4) dX9_taken_23 rfl rfl (by first | assumption | decide | omega) (by assumption) (by decide) (by omega) ?_
      refine k_astore_n (pc' := 25) dX9_taken_24 (Nat.le_of_ble_eq_true rfl) rfl ?_
      refine k_aload_n (pc' := 26) dX9_taken_25 rfl ?_
      refine p_get (pc' := 29) clX1 (Nat.le_of_ble_eq_true rfl) fl_RX9_297 dX9_taken_26 (by first | assumption | decide | omega) (by assumption) rfl ?_
      refine k_if_ne (tgt := 35) (pc' := 32) dX9_taken_29 rfl (fun _ => ?_) (fun zz_ => absurd zz_ h0)
      refine k_iload_n (pc' := 36) dX9_taken_35 rfl ?_
      refine k_if_ne (tgt := 52) (pc' := 39) dX9_taken_36 rfl (fun _ => ?_) (fun zz_ => absurd zz_ h1)
      refine k_iload_n (pc' := 53) dX9_taken_52 rfl ?_
      refine k_iconst (pc' := 54) (v := nI 1) dX9_taken_53 rfl ?_
      refine k_icmp_ne (tgt := 70) (pc' := 57) dX9_taken_54 rfl (fun zz_ => absurd h3 zz_) (fun _ => ?_)
      refine k_aload_n (pc' := 58) dX9_taken_57 rfl ?_
      refine p_get (pc' := 61) clX1 (Nat.le_of_ble_eq_true rfl) fl_RX9_297 dX9_taken_58 (by first | assumption | decide | omega) (by assumption) rfl ?_
      refine k_iconst (pc' := 62) (v := nI 2) dX9_taken_61 rfl ?_
      refine k_icmp_ne (tgt := 70) (pc' := 65) dX9_taken_62 rfl (fun _ => ?_) (fun zz_ => absurd zz_ h2)
      refine k_iload_n (pc' := 71) dX9_taken_70 rfl ?_
      refine k_iconst (pc' := 72) (v := nI 2) dX9_taken_71 rfl ?_
      refine k_icmp_ne (tgt := 88) (pc' := 75) dX9_taken_72 rfl (fun _ => ?_) (fun zz_ => absurd zz_ (by rw [h3]; decide))
      refine k_bipush (pc' := 90) (v := -12) dX9_taken_88 rfl ?_
      refine p_ireturn dX9_taken_90 rfl ?_
      exact done _ (by rw [if_neg (fun q => h2 q.2), if_neg (fun q => absurd q.1 (by rw [h3]; decide))])
  rw [if_neg (fun q => h3 q.1)] at done
  have h4 : y = nI 2 := by
    rw [iEq, nI_e (by decide)]
    rw [iEq, i0] at h1
    rw [iEq, nI_e (by decide)] at h3
    omega
  by_cases h2 : nI (H.1 h) = nI 3
  · refine k_aload_n (pc' := 19) dX9_taken_18 rfl ?_
    refine p_get (pc' := 22) clX9 (Nat.le_of_ble_eq_true rfl) fl_RX9_47 dX9_taken_19 (by first | assumption | decide | omega) (by assumption) rfl ?_
    refine k_iload_n (pc' := 23) dX9_taken_22 rfl ?_
    refine p_aaldN (pc' := 24) (t0 := 4) dX9_taken_23 rfl rfl (by first | assumption | decide | omega) (by assumption) (by decide) (by omega) ?_
    refine k_astore_n (pc' := 25) dX9_taken_24 (Nat.le_of_ble_eq_true rfl) rfl ?_
    refine k_aload_n (pc' := 26) dX9_taken_25 rfl ?_
    refine p_get (pc' := 29) clX1 (Nat.le_of_ble_eq_true rfl) fl_RX9_297 dX9_taken_26 (by first | assumption | decide | omega) (by assumption) rfl ?_
    refine k_if_ne (tgt := 35) (pc' := 32) dX9_taken_29 rfl (fun _ => ?_) (fun zz_ => absurd zz_ h0)
    refine k_iload_n (pc' := 36) dX9_taken_35 rfl ?_
    refine k_if_ne (tgt := 52) (pc' := 39) dX9_taken_36 rfl (fun _ => ?_) (fun zz_ => absurd zz_ h1)
    refine k_iload_n (pc' := 53) dX9_taken_52 rfl ?_
    refine k_iconst (pc' := 54) (v := nI 1) dX9_taken_53 rfl ?_
    refine k_icmp_ne (tgt := 70) (pc' := 57) dX9_taken_54 rfl (fun _ => ?_) (fun zz_ => absurd zz_ h3)
    refine k_iload_n (pc' := 71) dX9_taken_70 rfl ?_
    refine k_iconst (pc' := 72) (v := nI 2) dX9_taken_71 rfl ?_
    refine k_icmp_ne (tgt := 88) (pc' := 75) dX9_taken_72 rfl (fun zz_ => absurd h4 zz_) (fun _ => ?_)
    refine k_aload_n (pc' := 76) dX9_taken_75 rfl ?_
    refine p_get (pc' := 79) clX1 (Nat.le_of_ble_eq_true rfl) fl_RX9_297 dX9_taken_76 (by first | assumption | decide | omega) (by assumption) rfl ?_
    refine k_iconst (pc' := 80) (v := nI 3) dX9_taken_79 rfl ?_
    refine k_icmp_eq (tgt := 88) (pc' := 83) dX9_taken_80 rfl (fun _ => ?_) (fun zz_ => absurd h2 zz_)
    refine k_bipush (pc' := 90) (v := -12) dX9_taken_88 rfl ?_
    refine p_ireturn dX9_taken_90 rfl ?_
    exact done _ (by rw [if_neg (fun q => q.2 h2)])
  · refine k_aload_n (pc' := 19) dX9_taken_18 rfl ?_
    refine p_get (pc' := 22) clX9 (Nat.le_of_ble_eq_true rfl) fl_RX9_47 dX9_taken_19 (by first | assumption | decide | omega) (by assumption) rfl ?_
    refine k_iload_n (pc' := 23) dX9_taken_22 rfl ?_
    refine p_aaldN (pc' := 24) (t0 := 4) dX9_taken_23 rfl rfl (by first | assumption | decide | omega) (by assumption) (by decide) (by omega) ?_
    refine k_astore_n (pc' := 25) dX9_taken_24 (Nat.le_of_ble_eq_true rfl) rfl ?_
    refine k_aload_n (pc' := 26) dX9_taken_25 rfl ?_
    refine p_get (pc' := 29) clX1 (Nat.le_of_ble_eq_true rfl) fl_RX9_297 dX9_taken_26 (by first | assumption | decide | omega) (by assumption) rfl ?_
    refine k_if_ne (tgt := 35) (pc' := 32) dX9_taken_29 rfl (fun _ => ?_) (fun zz_ => absurd zz_ h0)
    refine k_iload_n (pc' := 36) dX9_taken_35 rfl ?_
    refine k_if_ne (tgt := 52) (pc' := 39) dX9_taken_36 rfl (fun _ => ?_) (fun zz_ => absurd zz_ h1)
    refine k_iload_n (pc' := 53) dX9_taken_52 rfl ?_
    refine k_iconst (pc' := 54) (v := nI 1) dX9_taken_53 rfl ?_
    refine k_icmp_ne (tgt := 70) (pc' := 57) dX9_taken_54 rfl (fun _ => ?_) (fun zz_ => absurd zz_ h3)
    refine k_iload_n (pc' := 71) dX9_taken_70 rfl ?_
    refine k_iconst (pc' := 72) (v := nI 2) dX9_taken_71 rfl ?_
    refine k_icmp_ne (tgt := 88) (pc' := 75) dX9_taken_72 rfl (fun zz_ => absurd h4 zz_) (fun _ => ?_)
    refine k_aload_n (pc' := 76) dX9_taken_75 rfl ?_
    refine p_get (pc' := 79) clX1 (Nat.le_of_ble_eq_true rfl) fl_RX9_297 dX9_taken_76 (by first | assumption | decide | omega) (by assumption) rfl ?_
    refine k_iconst (pc' := 80) (v := nI 3) dX9_taken_79 rfl ?_
    refine k_icmp_eq (tgt := 88) (pc' := 83) dX9_taken_80 rfl (fun zz_ => absurd zz_ h2) (fun _ => ?_)
    refine k_aload_n (pc' := 84) dX9_taken_83 rfl ?_
    refine p_get (pc' := 87) clX1 (Nat.le_of_ble_eq_true rfl) fl_RX9_301 dX9_taken_84 (by first | assumption | decide | omega) (by assumption) rfl ?_
    refine p_ireturn dX9_taken_87 rfl ?_
    exact done _ (by rw [if_pos ⟨h4, h2⟩])
theorem x_number (h : isX G σ A B C I H T) {x y : Int32} : ConP G mX9_number 2 [.ref (adr G 0), .int x, .int y] σ (fun v σ' => (¬ (0 ≤ x.toInt ∧ x.toInt ≤ 5) ∧ xL G σ (-9223372036854775808) A B C I H T v σ') ∨ ∃ h, x = nI h ∧ h < 6 ∧ xL G σ (if ¬ nI (H.1 h) = 0 ∧ 0 ≤ y.toInt ∧ y.toInt < H.2.2.1 h then (H.2.2.2 h y.toInt.toNat).toInt64 else -9223372036854775808) A B C I H T v σ') := by
  have hX := h
  obtain ⟨x0, x1, -, -, -, -, -, x31, xh, -⟩ := h
  have hkW : kW = 104 := rfl
  refine ConP.of rfl (Nat.le_of_ble_eq_true rfl) ?_
  refine k_iload_n (pc' := 1) dX9_number_0 rfl ?_
  refine p_sI (ν := mX9_isHolder) (pc' := 4) dX9_number_1 ml_RX9_206 mo_X9_isHolder ms_X9_isHolder (Nat.le_of_ble_eq_true rfl) rfl rfl (Nat.le_of_ble_eq_true rfl) (by decide) (x_isHolder) ?_
  refine k_if_eq (tgt := 32) (pc' := 7) dX9_number_4 rfl (fun c_4 => ?_) (fun c_4 => ?_)
  · rw [bI_eq] at c_4
    refine k_ldc2 (pc' := 35)  dX9_number_32 cl_RX9_228 ?_
    refine p_lreturn dX9_number_35 rfl ?_
    exact Or.inl ⟨c_4, rfl, hX, hi.rfl'⟩
  rw [bI_ne] at c_4
  obtain ⟨h, hh, rfl⟩ := nI_in0 (n := 6) (x := x) (by omega) (by omega) (by decide)
  have yh := xh h hh
  have e32 := yh.2.1
  have e33 := yh.2.2.1
  have hS := yh.2.2.2
  by_cases h0 : nI (H.1 h) = 0
  · refine k_aload_n (pc' := 8) dX9_number_7 rfl ?_
    refine p_get (pc' := 11) clX9 (Nat.le_of_ble_eq_true rfl) fl_RX9_47 dX9_number_8 (by first | assumption | decide | omega) (by assumption) rfl ?_
    refine k_iload_n (pc' := 12) dX9_number_11 rfl ?_
    refine p_aaldN (pc' := 13) (t0 := 4) dX9_number_12 rfl rfl (by first | assumption | decide | omega) (by assumption) (by decide) (by omega) ?_
    refine p_get (pc' := 16) clX1 (Nat.le_of_ble_eq_true rfl) fl_RX9_297 dX9_number_13 (by first | assumption | decide | omega) (by assumption) rfl ?_
    refine k_if_eq (tgt := 32) (pc' := 19) dX9_number_16 rfl (fun _ => ?_) (fun zz_ => absurd h0 zz_)
    refine k_ldc2 (pc' := 35)  dX9_number_32 cl_RX9_228 ?_
    refine p_lreturn dX9_number_35 rfl ?_
    exact Or.inr ⟨h, rfl, hh, by rw [if_neg (fun q => q.1 h0)], hX, hi.rfl'⟩
  by_cases h1 : 0 ≤ y.toInt ∧ y.toInt < H.2.2.1 h
  · obtain ⟨i, hi', rfl⟩ := nI_in0 (n := H.2.2.1 h) h1.1 h1.2 (by omega)
    refine k_aload_n (pc' := 8) dX9_number_7 rfl ?_
    refine p_get (pc' := 11) clX9 (Nat.le_of_ble_eq_true rfl) fl_RX9_47 dX9_number_8 (by first | assumption | decide | omega) (by assumption) rfl ?_
    refine k_iload_n (pc' := 12) dX9_number_11 rfl ?_
    refine p_aaldN (pc' := 13) (t0 := 4) dX9_number_12 rfl rfl (by first | assumption | decide | omega) (by assumption) (by decide) (by omega) ?_
    refine p_get (pc' := 16) clX1 (Nat.le_of_ble_eq_true rfl) fl_RX9_297 dX9_number_13 (by first | assumption | decide | omega) (by assumption) rfl ?_
    refine k_if_eq (tgt := 32) (pc' := 19) dX9_number_16 rfl (fun zz_ => absurd zz_ h0) (fun _ => ?_)
    refine k_aload_n (pc' := 20) dX9_number_19 rfl ?_
    refine p_get (pc' := 23) clX9 (Nat.le_of_ble_eq_true rfl) fl_RX9_47 dX9_number_20 (by first | assumption | decide | omega) (by assumption) rfl ?_
    refine k_iload_n (pc' := 24) dX9_number_23 rfl ?_
    refine p_aaldN (pc' := 25) (t0 := 4) dX9_number_24 rfl rfl (by first | assumption | decide | omega) (by assumption) (by decide) (by omega) ?_
    refine k_iload_n (pc' := 26) dX9_number_25 rfl ?_
    refine p_vI (ν := mX1_hasNumber) (pc' := 29) dX9_number_26 ml_RX9_304 mo_X1_hasNumber mv_X1_hasNumber clX1 (Nat.le_of_ble_eq_true rfl) rfl rfl (Nat.le_of_ble_eq_true rfl) (by first | assumption | decide | omega) (by assumption) (by decide) (c_hasNumber yh (nI i)) ?_
    refine k_if_ne (tgt := 36) (pc' := 32) dX9_number_29 rfl (fun _ => ?_) (fun zz_ => absurd zz_ (by rw [bI_eq]; exact fun q => q h1))
    refine k_aload_n (pc' := 37) dX9_number_36 rfl ?_
    refine p_get (pc' := 40) clX9 (Nat.le_of_ble_eq_true rfl) fl_RX9_47 dX9_number_37 (by first | assumption | decide | omega) (by assumption) rfl ?_
    refine k_iload_n (pc' := 41) dX9_number_40 rfl ?_
    refine p_aaldN (pc' := 42) (t0 := 4) dX9_number_41 rfl rfl (by first | assumption | decide | omega) (by assumption) (by decide) (by omega) ?_
    refine p_get (pc' := 45) clX1 (Nat.le_of_ble_eq_true rfl) fl_RX9_222 dX9_number_42 (by first | assumption | decide | omega) (by assumption) rfl ?_
    refine k_iload_n (pc' := 46) dX9_number_45 rfl ?_
    refine p_ialdN (pc' := 47) dX9_number_46 (by first | assumption | decide | omega) (by assumption) (by first | decide | omega) (by omega) ?_
    refine k_i2l (pc' := 48) dX9_number_47 rfl ?_
    refine p_lreturn dX9_number_48 rfl ?_
    refine Or.inr ⟨h, rfl, hh, ?_, hX, hi.rfl'⟩
    rw [if_pos ⟨h0, h1⟩, show (nI i).toInt.toNat = i by rw [nI_e (by omega)]; rfl]
  · refine k_aload_n (pc' := 8) dX9_number_7 rfl ?_
    refine p_get (pc' := 11) clX9 (Nat.le_of_ble_eq_true rfl) fl_RX9_47 dX9_number_8 (by first | assumption | decide | omega) (by assumption) rfl ?_
    refine k_iload_n (pc' := 12) dX9_number_11 rfl ?_
    refine p_aaldN (pc' := 13) (t0 := 4) dX9_number_12 rfl rfl (by first | assumption | decide | omega) (by assumption) (by decide) (by omega) ?_
    refine p_get (pc' := 16) clX1 (Nat.le_of_ble_eq_true rfl) fl_RX9_297 dX9_number_13 (by first | assumption | decide | omega) (by assumption) rfl ?_
    refine k_if_eq (tgt := 32) (pc' := 19) dX9_number_16 rfl (fun zz_ => absurd zz_ h0) (fun _ => ?_)
    refine k_aload_n (pc' := 20) dX9_number_19 rfl ?_
    refine p_get (pc' := 23) clX9 (Nat.le_of_ble_eq_true rfl) fl_RX9_47 dX9_number_20 (by first | assumption | decide | omega) (by assumption) rfl ?_
    refine k_iload_n (pc' := 24) dX9_number_23 rfl ?_
    refine p_aaldN (pc' := 25) (t0 := 4) dX9_number_24 rfl rfl (by first | assumption | decide | omega) (by assumption) (by decide) (by omega) ?_
    refine k_iload_n (pc' := 26) dX9_number_25 rfl ?_
    refine p_vI (ν := mX1_hasNumber) (pc' := 29) dX9_number_26 ml_RX9_304 mo_X1_hasNumber mv_X1_hasNumber clX1 (Nat.le_of_ble_eq_true rfl) rfl rfl (Nat.le_of_ble_eq_true rfl) (by first | assumption | decide | omega) (by assumption) (by decide) (c_hasNumber yh y) ?_
    refine k_if_ne (tgt := 36) (pc' := 32) dX9_number_29 rfl (fun zz_ => absurd (by rw [bI_eq]; exact h1) zz_) (fun _ => ?_)
    refine k_ldc2 (pc' := 35)  dX9_number_32 cl_RX9_228 ?_
    refine p_lreturn dX9_number_35 rfl ?_
    exact Or.inr ⟨h, rfl, hh, by rw [if_neg (fun q => h1 q.2)], hX, hi.rfl'⟩
theorem x_row (h : isX G σ A B C I H T) {x y : Int32} : ConP G mX9_row 2 [.ref (adr G 0), .int x, .int y] σ (fun v σ' => (¬ ((0 ≤ x.toInt ∧ x.toInt ≤ 5) ∧ y.toInt ≤ 20) ∧ xI G σ (-1) A B C I H T v σ') ∨ ((0 ≤ x.toInt ∧ x.toInt ≤ 5) ∧ y.toInt < 0 ∧ xI G σ (-14) A B C I H T v σ') ∨ ∃ h n, x = nI h ∧ h < 6 ∧ y = nI n ∧ n ≤ 20 ∧ xI G σ (nI n) A B C I (va_up H.1 h 3, va_up H.2.1 h 0, va_up H.2.2.1 h n, va_up H.2.2.2 h (zf 20 (H.2.2.2 h))) T v σ') := by
  have hX := h
  obtain ⟨x0, x1, -, -, -, -, -, x31, xh, -⟩ := h
  have hkW : kW = 104 := rfl
  refine ConP.of rfl (Nat.le_of_ble_eq_true rfl) ?_
  refine k_iload_n (pc' := 1) dX9_row_0 rfl ?_
  refine p_sI (ν := mX9_isHolder) (pc' := 4) dX9_row_1 ml_RX9_206 mo_X9_isHolder ms_X9_isHolder (Nat.le_of_ble_eq_true rfl) rfl rfl (Nat.le_of_ble_eq_true rfl) (by decide) (x_isHolder) ?_
  refine k_if_eq (tgt := 13) (pc' := 7) dX9_row_4 rfl (fun c_4 => ?_) (fun c_4 => ?_)
  · rw [bI_eq] at c_4
    refine k_iconst (pc' := 14) (v := -1) dX9_row_13 rfl ?_
    refine p_ireturn dX9_row_14 rfl ?_
    exact Or.inl ⟨fun q => c_4 q.1, rfl, hX, hi.rfl'⟩
  rw [bI_ne] at c_4
  refine k_iload_n (pc' := 8) dX9_row_7 rfl ?_
  refine k_bipush (pc' := 10) (v := nI 20) dX9_row_8 rfl ?_
  refine k_icmp_le (tgt := 15) (pc' := 13) dX9_row_10 rfl (fun c_10 => ?_) (fun c_10 => ?_)
  rotate_left
  · rw [iLe, nI_e (by decide)] at c_10
    refine k_iconst (pc' := 14) (v := -1) dX9_row_13 rfl ?_
    refine p_ireturn dX9_row_14 rfl ?_
    exact Or.inl ⟨fun q => by omega, rfl, hX, hi.rfl'⟩
  rw [iLe, nI_e (by decide)] at c_10
  refine k_iload_n (pc' := 16) dX9_row_15 rfl ?_
  refine k_if_ge (tgt := 22) (pc' := 19) dX9_row_16 rfl (fun c_16 => ?_) (fun c_16 => ?_)
  rotate_left
  · rw [iLe, i0] at c_16
    refine k_bipush (pc' := 21) (v := -14) dX9_row_19 rfl ?_
    refine p_ireturn dX9_row_21 rfl ?_
    exact Or.inr (Or.inl ⟨c_4, by omega, rfl, hX, hi.rfl'⟩)
  rw [iLe, i0] at c_16
  obtain ⟨h, hh, rfl⟩ := nI_in0 (n := 6) (x := x) (by omega) (by omega) (by decide)
  obtain ⟨n, hn, rfl⟩ := nI_in0 (n := 21) (x := y) (by omega) (by omega) (by decide)
  have yh := xh h hh
  have e32 := yh.2.1
  have zX := hX.hold hh (kd := 3) (op := 0) (S := n) (nu := zf 20 (H.2.2.2 h)) (by omega)
  refine k_aload_n (pc' := 23) dX9_row_22 rfl ?_
  refine p_get (pc' := 26) clX9 (Nat.le_of_ble_eq_true rfl) fl_RX9_47 dX9_row_23 (by first | assumption | decide | omega) (by assumption) rfl ?_
  refine k_iload_n (pc' := 27) dX9_row_26 rfl ?_
  refine p_aaldN (pc' := 28) (t0 := 4) dX9_row_27 rfl rfl (by first | assumption | decide | omega) (by assumption) (by decide) (by omega) ?_
  refine k_iload_n (pc' := 29) dX9_row_28 rfl ?_
  refine p_vV (ν := mX1_becomeRow) (pc' := 32) dX9_row_29 ml_RX9_307 mo_X1_becomeRow mv_X1_becomeRow clX1 (Nat.le_of_ble_eq_true rfl) rfl rfl (Nat.le_of_ble_eq_true rfl) (by first | assumption | decide | omega) (by assumption) (by decide) (c_becomeRow yh (s := n) (by omega)) ?_
  refine k_iload_n (pc' := 33) dX9_row_32 rfl ?_
  refine p_ireturn dX9_row_33 rfl ?_
  exact Or.inr (Or.inr ⟨h, n, rfl, hh, rfl, by omega, rfl, zX, fun q hq => putH_n (by omega) (by omega)⟩)
theorem x_set (h : isX G σ A B C I H T) {x y w : Int32} : ConP G mX9_set 3 [.ref (adr G 0), .int x, .int y, .int w] σ (fun v σ' => (¬ (0 ≤ x.toInt ∧ x.toInt ≤ 5) ∧ xI G σ (-1) A B C I H T v σ') ∨ ∃ h, x = nI h ∧ h < 6 ∧ ((¬ xRk H h 3 = 0 ∧ xI G σ (xRk H h 3) A B C I H T v σ') ∨ (xRk H h 3 = 0 ∧ ¬ (0 ≤ y.toInt ∧ y.toInt < H.2.2.1 h) ∧ xI G σ (-13) A B C I H T v σ') ∨ ∃ i, xRk H h 3 = 0 ∧ y = nI i ∧ i < H.2.2.1 h ∧ xI G σ 1 A B C I (va_up H.1 h (H.1 h), va_up H.2.1 h (H.2.1 h), va_up H.2.2.1 h (H.2.2.1 h), va_up H.2.2.2 h (upd (H.2.2.2 h) i w)) T v σ')) := by
  have hX := h
  obtain ⟨x0, x1, -, -, -, -, -, x31, xh, -⟩ := h
  have hkW : kW = 104 := rfl
  refine ConP.of rfl (Nat.le_of_ble_eq_true rfl) ?_
  by_cases hx : 0 ≤ x.toInt ∧ x.toInt ≤ 5
  rotate_left
  · refine k_aload_n (pc' := 1) dX9_set_0 rfl ?_
    refine k_iload_n (pc' := 2) dX9_set_1 rfl ?_
    refine k_iconst (pc' := 3) (v := nI 3) dX9_set_2 rfl ?_
    refine p_vI (ν := mX9_refusalOfKind) (pc' := 6) dX9_set_3 ml_RX9_216 mo_X9_refusalOfKind mv_X9_refusalOfKind clX9 (Nat.le_of_ble_eq_true rfl) rfl rfl (Nat.le_of_ble_eq_true rfl) (by first | assumption | decide | omega) (by assumption) (by decide) (x_rkBad hx) ?_
    refine k_istore (pc' := 8) dX9_set_6 (Nat.le_of_ble_eq_true rfl) rfl ?_
    refine k_iload (pc' := 10) dX9_set_8 rfl ?_
    refine k_if_eq (tgt := 16) (pc' := 13) dX9_set_10 rfl (fun zz_ => absurd zz_ (by decide)) (fun _ => ?_)
    refine k_iload (pc' := 15) dX9_set_13 rfl ?_
    refine p_ireturn dX9_set_15 rfl ?_
    exact Or.inl ⟨hx, rfl, hX, hi.rfl'⟩
  obtain ⟨h, hh, rfl⟩ := nI_in0 (n := 6) (x := x) (by omega) (by omega) (by decide)
  have yh := xh h hh
  have e32 := yh.2.1
  have e33 := yh.2.2.1
  have hS := yh.2.2.2
  by_cases h1 : xRk H h 3 = 0
  rotate_left
  · refine k_aload_n (pc' := 1) dX9_set_0 rfl ?_
    refine k_iload_n (pc' := 2) dX9_set_1 rfl ?_
    refine k_iconst (pc' := 3) (v := nI 3) dX9_set_2 rfl ?_
    refine p_vI (ν := mX9_refusalOfKind) (pc' := 6) dX9_set_3 ml_RX9_216 mo_X9_refusalOfKind mv_X9_refusalOfKind clX9 (Nat.le_of_ble_eq_true rfl) rfl rfl (Nat.le_of_ble_eq_true rfl) (by first | assumption | decide | omega) (by assumption) (by decide) (x_rk hX hh) ?_
    refine k_istore (pc' := 8) dX9_set_6 (Nat.le_of_ble_eq_true rfl) rfl ?_
    refine k_iload (pc' := 10) dX9_set_8 rfl ?_
    refine k_if_eq (tgt := 16) (pc' := 13) dX9_set_10 rfl (fun zz_ => absurd zz_ h1) (fun _ => ?_)
    refine k_iload (pc' := 15) dX9_set_13 rfl ?_
    refine p_ireturn dX9_set_15 rfl ?_
    exact Or.inr ⟨h, rfl, hh, Or.inl ⟨h1, rfl, hX, hi.rfl'⟩⟩
  by_cases h2 : 0 ≤ y.toInt ∧ y.toInt < H.2.2.1 h
  rotate_left
  · refine k_aload_n (pc' := 1) dX9_set_0 rfl ?_
    refine k_iload_n (pc' := 2) dX9_set_1 rfl ?_
    refine k_iconst (pc' := 3) (v := nI 3) dX9_set_2 rfl ?_
    refine p_vI (ν := mX9_refusalOfKind) (pc' := 6) dX9_set_3 ml_RX9_216 mo_X9_refusalOfKind mv_X9_refusalOfKind clX9 (Nat.le_of_ble_eq_true rfl) rfl rfl (Nat.le_of_ble_eq_true rfl) (by first | assumption | decide | omega) (by assumption) (by decide) (x_rk hX hh) ?_
    refine k_istore (pc' := 8) dX9_set_6 (Nat.le_of_ble_eq_true rfl) rfl ?_
    refine k_iload (pc' := 10) dX9_set_8 rfl ?_
    refine k_if_eq (tgt := 16) (pc' := 13) dX9_set_10 rfl (fun _ => ?_) (fun zz_ => absurd h1 zz_)
    refine k_aload_n (pc' := 17) dX9_set_16 rfl ?_
    refine p_get (pc' := 20) clX9 (Nat.le_of_ble_eq_true rfl) fl_RX9_47 dX9_set_17 (by first | assumption | decide | omega) (by assumption) rfl ?_
    refine k_iload_n (pc' := 21) dX9_set_20 rfl ?_
    refine p_aaldN (pc' := 22) (t0 := 4) dX9_set_21 rfl rfl (by first | assumption | decide | omega) (by assumption) (by decide) (by omega) ?_
    refine k_iload_n (pc' := 23) dX9_set_22 rfl ?_
    refine p_vI (ν := mX1_hasNumber) (pc' := 26) dX9_set_23 ml_RX9_304 mo_X1_hasNumber mv_X1_hasNumber clX1 (Nat.le_of_ble_eq_true rfl) rfl rfl (Nat.le_of_ble_eq_true rfl) (by first | assumption | decide | omega) (by assumption) (by decide) (c_hasNumber yh y) ?_
    refine k_if_ne (tgt := 32) (pc' := 29) dX9_set_26 rfl (fun zz_ => absurd (by rw [bI_eq]; exact h2) zz_) (fun _ => ?_)
    refine k_bipush (pc' := 31) (v := -13) dX9_set_29 rfl ?_
    refine p_ireturn dX9_set_31 rfl ?_
    exact Or.inr ⟨h, rfl, hh, Or.inr (Or.inl ⟨h1, h2, rfl, hX, hi.rfl'⟩)⟩
  obtain ⟨i, hi', rfl⟩ := nI_in0 (n := H.2.2.1 h) h2.1 h2.2 (by omega)
  have zX := hX.hold hh (kd := H.1 h) (op := H.2.1 h) (S := H.2.2.1 h) (nu := upd (H.2.2.2 h) i w) hS
  refine k_aload_n (pc' := 1) dX9_set_0 rfl ?_
  refine k_iload_n (pc' := 2) dX9_set_1 rfl ?_
  refine k_iconst (pc' := 3) (v := nI 3) dX9_set_2 rfl ?_
  refine p_vI (ν := mX9_refusalOfKind) (pc' := 6) dX9_set_3 ml_RX9_216 mo_X9_refusalOfKind mv_X9_refusalOfKind clX9 (Nat.le_of_ble_eq_true rfl) rfl rfl (Nat.le_of_ble_eq_true rfl) (by first | assumption | decide | omega) (by assumption) (by decide) (x_rk hX hh) ?_
  refine k_istore (pc' := 8) dX9_set_6 (Nat.le_of_ble_eq_true rfl) rfl ?_
  refine k_iload (pc' := 10) dX9_set_8 rfl ?_
  refine k_if_eq (tgt := 16) (pc' := 13) dX9_set_10 rfl (fun _ => ?_) (fun zz_ => absurd h1 zz_)
  refine k_aload_n (pc' := 17) dX9_set_16 rfl ?_
  refine p_get (pc' := 20) clX9 (Nat.le_of_ble_eq_true rfl) fl_RX9_47 dX9_set_17 (by first | assumption | decide | omega) (by assumption) rfl ?_
  refine k_iload_n (pc' := 21) dX9_set_20 rfl ?_
  refine p_aaldN (pc' := 22) (t0 := 4) dX9_set_21 rfl rfl (by first | assumption | decide | omega) (by assumption) (by decide) (by omega) ?_
  refine k_iload_n (pc' := 23) dX9_set_22 rfl ?_
  refine p_vI (ν := mX1_hasNumber) (pc' := 26) dX9_set_23 ml_RX9_304 mo_X1_hasNumber mv_X1_hasNumber clX1 (Nat.le_of_ble_eq_true rfl) rfl rfl (Nat.le_of_ble_eq_true rfl) (by first | assumption | decide | omega) (by assumption) (by decide) (c_hasNumber yh (nI i)) ?_
  refine k_if_ne (tgt := 32) (pc' := 29) dX9_set_26 rfl (fun _ => ?_) (fun zz_ => absurd zz_ (by rw [bI_eq]; exact fun q => q h2))
  refine k_aload_n (pc' := 33) dX9_set_32 rfl ?_
  refine p_get (pc' := 36) clX9 (Nat.le_of_ble_eq_true rfl) fl_RX9_47 dX9_set_33 (by first | assumption | decide | omega) (by assumption) rfl ?_
  refine k_iload_n (pc' := 37) dX9_set_36 rfl ?_
  refine p_aaldN (pc' := 38) (t0 := 4) dX9_set_37 rfl rfl (by first | assumption | decide | omega) (by assumption) (by decide) (by omega) ?_
  refine p_get (pc' := 41) clX1 (Nat.le_of_ble_eq_true rfl) fl_RX9_222 dX9_set_38 (by first | assumption | decide | omega) (by assumption) rfl ?_
  refine k_iload_n (pc' := 42) dX9_set_41 rfl ?_
  refine k_iload_n (pc' := 43) dX9_set_42 rfl ?_
  refine p_iastN (pc' := 44) (σ1 := putH G σ (32 + 2 * h) (H.1 h) (H.2.1 h) (H.2.2.1 h) (upd (H.2.2.2 h) i w)) dX9_set_43 (by first | assumption | decide | omega) (by assumption) (by first | decide | omega) (by omega) (by exact (putH_nu yh)) ?_
  refine k_iconst (pc' := 45) (v := nI 1) dX9_set_44 rfl ?_
  refine p_ireturn dX9_set_45 rfl ?_
  exact Or.inr ⟨h, rfl, hh, Or.inr (Or.inr ⟨i, h1, rfl, hi', rfl, zX, fun q hq => putH_n (by omega) (by omega)⟩)⟩
def xJu (P S : Nat) (nu far : Nat → Int32) : Nat → Nat → Int32
  | 0, _ => if P < S then nI P else -2
  | n + 1, p => if p < S ∧ nu p = far p then xJu P S nu far n (p + 1) else nI p
theorem x_judge (h : isX G σ A B C I H T) {x : Int32} : ConP G mX9_judge 3 [.ref (adr G 0), .int x] σ (fun v σ' => (¬ (0 ≤ x.toInt ∧ x.toInt ≤ 5) ∧ xI G σ (-1) A B C I H T v σ') ∨ ∃ h, x = nI h ∧ h < 6 ∧ xI G σ (if xRk H h 3 = 0 then xJu (pN A.1) (H.2.2.1 h) (H.2.2.2 h) A.2 (pN A.1) 0 else xRk H h 3) A B C I H T v σ') := by
  have hX := h
  obtain ⟨x0, x1, -, -, -, -, -, x31, xh, -⟩ := h
  have e1 := x1.2.2.1
  have e2 := x1.2.2.2.1
  have hpn := pN_le x1.2.2.2.2.2
  have hkW : kW = 104 := rfl
  refine ConP.of rfl (Nat.le_of_ble_eq_true rfl) ?_
  by_cases hx : 0 ≤ x.toInt ∧ x.toInt ≤ 5
  rotate_left
  · refine k_aload_n (pc' := 1) dX9_judge_0 rfl ?_
    refine k_iload_n (pc' := 2) dX9_judge_1 rfl ?_
    refine k_iconst (pc' := 3) (v := nI 3) dX9_judge_2 rfl ?_
    refine p_vI (ν := mX9_refusalOfKind) (pc' := 6) dX9_judge_3 ml_RX9_216 mo_X9_refusalOfKind mv_X9_refusalOfKind clX9 (Nat.le_of_ble_eq_true rfl) rfl rfl (Nat.le_of_ble_eq_true rfl) (by first | assumption | decide | omega) (by assumption) (by decide) (x_rkBad hx) ?_
    refine k_istore_n (pc' := 7) dX9_judge_6 (Nat.le_of_ble_eq_true rfl) rfl ?_
    refine k_iload_n (pc' := 8) dX9_judge_7 rfl ?_
    refine k_if_eq (tgt := 13) (pc' := 11) dX9_judge_8 rfl (fun zz_ => absurd zz_ (by decide)) (fun _ => ?_)
    refine k_iload_n (pc' := 12) dX9_judge_11 rfl ?_
    refine p_ireturn dX9_judge_12 rfl ?_
    exact Or.inl ⟨hx, rfl, hX, hi.rfl'⟩
  obtain ⟨h, hh, rfl⟩ := nI_in0 (n := 6) (x := x) (by omega) (by omega) (by decide)
  have yh := xh h hh
  have e32 := yh.2.1
  have e33 := yh.2.2.1
  have hS := yh.2.2.2
  by_cases h1 : xRk H h 3 = 0
  rotate_left
  · refine k_aload_n (pc' := 1) dX9_judge_0 rfl ?_
    refine k_iload_n (pc' := 2) dX9_judge_1 rfl ?_
    refine k_iconst (pc' := 3) (v := nI 3) dX9_judge_2 rfl ?_
    refine p_vI (ν := mX9_refusalOfKind) (pc' := 6) dX9_judge_3 ml_RX9_216 mo_X9_refusalOfKind mv_X9_refusalOfKind clX9 (Nat.le_of_ble_eq_true rfl) rfl rfl (Nat.le_of_ble_eq_true rfl) (by first | assumption | decide | omega) (by assumption) (by decide) (x_rk hX hh) ?_
    refine k_istore_n (pc' := 7) dX9_judge_6 (Nat.le_of_ble_eq_true rfl) rfl ?_
    refine k_iload_n (pc' := 8) dX9_judge_7 rfl ?_
    refine k_if_eq (tgt := 13) (pc' := 11) dX9_judge_8 rfl (fun zz_ => absurd zz_ h1) (fun _ => ?_)
    refine k_iload_n (pc' := 12) dX9_judge_11 rfl ?_
    refine p_ireturn dX9_judge_12 rfl ?_
    exact Or.inr ⟨h, rfl, hh, by rw [if_neg h1], hX, hi.rfl'⟩
  refine k_aload_n (pc' := 1) dX9_judge_0 rfl ?_
  refine k_iload_n (pc' := 2) dX9_judge_1 rfl ?_
  refine k_iconst (pc' := 3) (v := nI 3) dX9_judge_2 rfl ?_
  refine p_vI (ν := mX9_refusalOfKind) (pc' := 6) dX9_judge_3 ml_RX9_216 mo_X9_refusalOfKind mv_X9_refusalOfKind clX9 (Nat.le_of_ble_eq_true rfl) rfl rfl (Nat.le_of_ble_eq_true rfl) (by first | assumption | decide | omega) (by assumption) (by decide) (x_rk hX hh) ?_
  refine k_istore_n (pc' := 7) dX9_judge_6 (Nat.le_of_ble_eq_true rfl) rfl ?_
  refine k_iload_n (pc' := 8) dX9_judge_7 rfl ?_
  refine k_if_eq (tgt := 13) (pc' := 11) dX9_judge_8 rfl (fun _ => ?_) (fun zz_ => absurd h1 zz_)
  refine k_aload_n (pc' := 14) dX9_judge_13 rfl ?_
  refine p_get (pc' := 17) clX9 (Nat.le_of_ble_eq_true rfl) fl_RX9_47 dX9_judge_14 (by first | assumption | decide | omega) (by assumption) rfl ?_
  refine k_iload_n (pc' := 18) dX9_judge_17 rfl ?_
  refine p_aaldN (pc' := 19) (t0 := 4) dX9_judge_18 rfl rfl (by first | assumption | decide | omega) (by assumption) (by decide) (by omega) ?_
  refine k_astore_n (pc' := 20) dX9_judge_19 (Nat.le_of_ble_eq_true rfl) rfl ?_
  refine k_aload_n (pc' := 21) dX9_judge_20 rfl ?_
  refine p_get (pc' := 24) clX9 (Nat.le_of_ble_eq_true rfl) fl_RX9_12 dX9_judge_21 (by first | assumption | decide | omega) (by assumption) rfl ?_
  refine p_vI (ν := mX6_pairCount) (pc' := 27) dX9_judge_24 ml_RX9_132 mo_X6_pairCount mv_X6_pairCount clX6 (Nat.le_of_ble_eq_true rfl) rfl rfl (Nat.le_of_ble_eq_true rfl) (by first | assumption | decide | omega) (by assumption) (by decide) (c_pairCount x1) ?_
  refine k_istore (pc' := 29) dX9_judge_27 (Nat.le_of_ble_eq_true rfl) rfl ?_
  refine k_iconst (pc' := 30) (v := nI 0) dX9_judge_29 rfl ?_
  refine k_istore (pc' := 32) dX9_judge_30 (Nat.le_of_ble_eq_true rfl) rfl ?_
  obtain ⟨O, hO⟩ : ∃ O, O = xJu (pN A.1) (H.2.2.1 h) (H.2.2.2 h) A.2 (pN A.1) 0 := ⟨_, rfl⟩
  have done : ∀ v, v = O → (fun v σ' => (¬ (0 ≤ (nI h).toInt ∧ (nI h).toInt ≤ 5) ∧ xI G σ (-1) A B C I H T v σ') ∨ ∃ h', nI h = nI h' ∧ h' < 6 ∧ xI G σ (if xRk H h' 3 = 0 then xJu (pN A.1) (H.2.2.1 h') (H.2.2.2 h') A.2 (pN A.1) 0 else xRk H h' 3) A B C I H T v σ') (some (.int v)) σ := by
    intro v hv
    exact Or.inr ⟨h, rfl, hh, by rw [if_pos h1, hv, hO], hX, hi.rfl'⟩
  have main : ∀ n p, p + n = pN A.1 → xJu (pN A.1) (H.2.2.1 h) (H.2.2.2 h) A.2 n p = O → OkP G mX9_judge 3 (fun v σ' => (¬ (0 ≤ (nI h).toInt ∧ (nI h).toInt ≤ 5) ∧ xI G σ (-1) A B C I H T v σ') ∨ ∃ h', nI h = nI h' ∧ h' < 6 ∧ xI G σ (if xRk H h' 3 = 0 then xJu (pN A.1) (H.2.2.1 h') (H.2.2.2 h') A.2 (pN A.1) 0 else xRk H h' 3) A B C I H T v σ') 32 [some (.ref (adr G 0)), some (.int (nI h)), some (.int (xRk H h 3)), some (.ref (adr G (32 + 2 * h))), some (.int (nI (pN A.1))), some (.int (nI p))] [] σ := by
    intro n
    induction n with
    | zero =>
      intro p hp hr
      unfold xJu at hr
      by_cases hc : pN A.1 < H.2.2.1 h
      · rw [if_pos hc] at hr
        refine k_iload (pc' := 34) dX9_judge_32 rfl ?_
        refine k_iload (pc' := 36) dX9_judge_34 rfl ?_
        refine k_icmp_ge (tgt := 77) (pc' := 39) dX9_judge_36 rfl (fun _ => ?_) (fun zz_ => absurd (nI_le (by omega) (by omega)) zz_)
        refine k_aload_n (pc' := 78) dX9_judge_77 rfl ?_
        refine p_get (pc' := 81) clX1 (Nat.le_of_ble_eq_true rfl) fl_RX9_310 dX9_judge_78 (by first | assumption | decide | omega) (by assumption) rfl ?_
        refine k_iload (pc' := 83) dX9_judge_81 rfl ?_
        refine k_icmp_le (tgt := 91) (pc' := 86) dX9_judge_83 rfl (fun zz_ => absurd zz_ (by rw [iLe, nI_e (by omega), nI_e (by omega)]; omega)) (fun _ => ?_)
        refine k_iload (pc' := 88) dX9_judge_86 rfl ?_
        refine k_goto (tgt := 93) dX9_judge_88 rfl ?_
        refine p_ireturn dX9_judge_93 rfl ?_
        exact done _ hr
      · rw [if_neg hc] at hr
        refine k_iload (pc' := 34) dX9_judge_32 rfl ?_
        refine k_iload (pc' := 36) dX9_judge_34 rfl ?_
        refine k_icmp_ge (tgt := 77) (pc' := 39) dX9_judge_36 rfl (fun _ => ?_) (fun zz_ => absurd (nI_le (by omega) (by omega)) zz_)
        refine k_aload_n (pc' := 78) dX9_judge_77 rfl ?_
        refine p_get (pc' := 81) clX1 (Nat.le_of_ble_eq_true rfl) fl_RX9_310 dX9_judge_78 (by first | assumption | decide | omega) (by assumption) rfl ?_
        refine k_iload (pc' := 83) dX9_judge_81 rfl ?_
        refine k_icmp_le (tgt := 91) (pc' := 86) dX9_judge_83 rfl (fun _ => ?_) (fun zz_ => absurd (nI_le (by omega) (by omega)) zz_)
        refine k_bipush (pc' := 93) (v := -2) dX9_judge_91 rfl ?_
        refine p_ireturn dX9_judge_93 rfl ?_
        exact done _ hr
    | succ n ih =>
      intro p hp hr
      unfold xJu at hr
      have hpe := nI_e (n := p) (by omega)
      by_cases hc : p < H.2.2.1 h
      · by_cases hd : H.2.2.2 h p = A.2 p
        · rw [if_pos ⟨hc, hd⟩] at hr
          refine k_iload (pc' := 34) dX9_judge_32 rfl ?_
          refine k_iload (pc' := 36) dX9_judge_34 rfl ?_
          refine k_icmp_ge (tgt := 77) (pc' := 39) dX9_judge_36 rfl (fun zz_ => absurd zz_ (nI_ge (by omega) (by omega))) (fun _ => ?_)
          refine k_aload_n (pc' := 40) dX9_judge_39 rfl ?_
          refine k_iload (pc' := 42) dX9_judge_40 rfl ?_
          refine p_vI (ν := mX1_hasNumber) (pc' := 45) dX9_judge_42 ml_RX9_304 mo_X1_hasNumber mv_X1_hasNumber clX1 (Nat.le_of_ble_eq_true rfl) rfl rfl (Nat.le_of_ble_eq_true rfl) (by first | assumption | decide | omega) (by assumption) (by decide) (c_hasNumber yh (nI p)) ?_
          refine k_if_eq (tgt := 68) (pc' := 48) dX9_judge_45 rfl (fun zz_ => absurd zz_ (by rw [bI_eq, hpe]; omega)) (fun _ => ?_)
          refine k_aload_n (pc' := 49) dX9_judge_48 rfl ?_
          refine p_get (pc' := 52) clX1 (Nat.le_of_ble_eq_true rfl) fl_RX9_222 dX9_judge_49 (by first | assumption | decide | omega) (by assumption) rfl ?_
          refine k_iload (pc' := 54) dX9_judge_52 rfl ?_
          refine p_ialdN (pc' := 55) dX9_judge_54 (by first | assumption | decide | omega) (by assumption) (by first | decide | omega) (by omega) ?_
          refine k_aload_n (pc' := 56) dX9_judge_55 rfl ?_
          refine p_get (pc' := 59) clX9 (Nat.le_of_ble_eq_true rfl) fl_RX9_12 dX9_judge_56 (by first | assumption | decide | omega) (by assumption) rfl ?_
          refine p_get (pc' := 62) clX6 (Nat.le_of_ble_eq_true rfl) fl_RX9_113 dX9_judge_59 (by first | assumption | decide | omega) (by assumption) rfl ?_
          refine k_iload (pc' := 64) dX9_judge_62 rfl ?_
          refine p_ialdN (pc' := 65) dX9_judge_64 (by first | assumption | decide | omega) (by assumption) (by first | decide | omega) (by omega) ?_
          refine k_icmp_eq (tgt := 71) (pc' := 68) dX9_judge_65 rfl (fun _ => ?_) (fun zz_ => absurd hd zz_)
          refine k_iinc (pc' := 74) (v := nI (p + 1)) dX9_judge_71 rfl (nI_inc _) (Nat.le_of_ble_eq_true rfl) rfl ?_
          refine k_goto (tgt := 32) dX9_judge_74 rfl ?_
          exact ih _ (by omega) hr
        · rw [if_neg (fun q => hd q.2)] at hr
          refine k_iload (pc' := 34) dX9_judge_32 rfl ?_
          refine k_iload (pc' := 36) dX9_judge_34 rfl ?_
          refine k_icmp_ge (tgt := 77) (pc' := 39) dX9_judge_36 rfl (fun zz_ => absurd zz_ (nI_ge (by omega) (by omega))) (fun _ => ?_)
          refine k_aload_n (pc' := 40) dX9_judge_39 rfl ?_
          refine k_iload (pc' := 42) dX9_judge_40 rfl ?_
          refine p_vI (ν := mX1_hasNumber) (pc' := 45) dX9_judge_42 ml_RX9_304 mo_X1_hasNumber mv_X1_hasNumber clX1 (Nat.le_of_ble_eq_true rfl) rfl rfl (Nat.le_of_ble_eq_true rfl) (by first | assumption | decide | omega) (by assumption) (by decide) (c_hasNumber yh (nI p)) ?_
          refine k_if_eq (tgt := 68) (pc' := 48) dX9_judge_45 rfl (fun zz_ => absurd zz_ (by rw [bI_eq, hpe]; omega)) (fun _ => ?_)
          refine k_aload_n (pc' := 49) dX9_judge_48 rfl ?_
          refine p_get (pc' := 52) clX1 (Nat.le_of_ble_eq_true rfl) fl_RX9_222 dX9_judge_49 (by first | assumption | decide | omega) (by assumption) rfl ?_
          refine k_iload (pc' := 54) dX9_judge_52 rfl ?_
          refine p_ialdN (pc' := 55) dX9_judge_54 (by first | assumption | decide | omega) (by assumption) (by first | decide | omega) (by omega) ?_
          refine k_aload_n (pc' := 56) dX9_judge_55 rfl ?_
          refine p_get (pc' := 59) clX9 (Nat.le_of_ble_eq_true rfl) fl_RX9_12 dX9_judge_56 (by first | assumption | decide | omega) (by assumption) rfl ?_
          refine p_get (pc' := 62) clX6 (Nat.le_of_ble_eq_true rfl) fl_RX9_113 dX9_judge_59 (by first | assumption | decide | omega) (by assumption) rfl ?_
          refine k_iload (pc' := 64) dX9_judge_62 rfl ?_
          refine p_ialdN (pc' := 65) dX9_judge_64 (by first | assumption | decide | omega) (by assumption) (by first | decide | omega) (by omega) ?_
          refine k_icmp_eq (tgt := 71) (pc' := 68) dX9_judge_65 rfl (fun zz_ => absurd zz_ hd) (fun _ => ?_)
          refine k_iload (pc' := 70) dX9_judge_68 rfl ?_
          refine p_ireturn dX9_judge_70 rfl ?_
          exact done _ hr
      · rw [if_neg (fun q => hc q.1)] at hr
        refine k_iload (pc' := 34) dX9_judge_32 rfl ?_
        refine k_iload (pc' := 36) dX9_judge_34 rfl ?_
        refine k_icmp_ge (tgt := 77) (pc' := 39) dX9_judge_36 rfl (fun zz_ => absurd zz_ (nI_ge (by omega) (by omega))) (fun _ => ?_)
        refine k_aload_n (pc' := 40) dX9_judge_39 rfl ?_
        refine k_iload (pc' := 42) dX9_judge_40 rfl ?_
        refine p_vI (ν := mX1_hasNumber) (pc' := 45) dX9_judge_42 ml_RX9_304 mo_X1_hasNumber mv_X1_hasNumber clX1 (Nat.le_of_ble_eq_true rfl) rfl rfl (Nat.le_of_ble_eq_true rfl) (by first | assumption | decide | omega) (by assumption) (by decide) (c_hasNumber yh (nI p)) ?_
        refine k_if_eq (tgt := 68) (pc' := 48) dX9_judge_45 rfl (fun _ => ?_) (fun zz_ => absurd (by rw [bI_eq, hpe]; omega) zz_)
        refine k_iload (pc' := 70) dX9_judge_68 rfl ?_
        refine p_ireturn dX9_judge_70 rfl ?_
        exact done _ hr
  exact main (pN A.1) 0 (by omega) hO.symm
end X9
