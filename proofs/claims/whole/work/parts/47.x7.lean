section X7
variable {G : GT} {σ σ' : Sto} {A : XA} {B : XB} {C : XC} {I : XI} {H : XH} {T : XT}
/-- the k-th wall: whether there is one, and its numbers -/
def xNth (N m : Nat) (ft : Nat → Int32) (w0 : WS) (k : Nat) : Int32 × WS := itG N m ft (min k 16807) (xS N m ft w0)
theorem x_wall (h : isX G σ A B C I H T) {x y w : Int32} : ConP G mX9_wall 7 [.ref (adr G 0), .int x, .int y, .int w] σ (fun v σ' => (¬ ((1 ≤ x.toInt ∧ x.toInt ≤ 3) ∧ (0 ≤ w.toInt ∧ w.toInt < A.1) ∧ 0 ≤ y.toInt) ∧ xI G σ (-1) A B C I H T v σ') ∨ ∃ m i, x = nI m ∧ 1 ≤ m ∧ m ≤ 3 ∧ w = nI i ∧ i < A.1 ∧ 0 ≤ y.toInt ∧ ∃ w0 fa, wK w0 ∧ xI G σ (if (xNth A.1 m (va_cpy A.2 fa 0 0 15) w0 y.toInt.toNat).1 = 0 then -2 else (xNth A.1 m (va_cpy A.2 fa 0 0 15) w0 y.toInt.toNat).2.1 i + nI 3) A B C I H T v σ') := by
  have hX := h
  obtain ⟨x0, x1, -⟩ := h
  have e1 := x1.2.2.1
  have hN2 := x1.2.2.2.2.1
  have hN6 := x1.2.2.2.2.2
  refine ConP.of rfl (Nat.le_of_ble_eq_true rfl) ?_
  refine k_iload_n (pc' := 1) dX9_wall_0 rfl ?_
  refine p_sI (ν := mX9_isWidth) (pc' := 4) dX9_wall_1 ml_RX9_184 mo_X9_isWidth ms_X9_isWidth (Nat.le_of_ble_eq_true rfl) rfl rfl (Nat.le_of_ble_eq_true rfl) (by decide) (x_isWidth) ?_
  refine k_if_eq (tgt := 22) (pc' := 7) dX9_wall_4 rfl (fun c_4 => ?_) (fun c_4 => ?_)
  · rw [bI_eq] at c_4
    refine k_iconst (pc' := 23) (v := -1) dX9_wall_22 rfl ?_
    refine p_ireturn dX9_wall_23 rfl ?_
    exact Or.inl ⟨fun q => c_4 q.1, rfl, hX, hi.rfl'⟩
  rw [bI_ne] at c_4
  refine k_aload_n (pc' := 8) dX9_wall_7 rfl ?_
  refine p_get (pc' := 11) clX9 (Nat.le_of_ble_eq_true rfl) fl_RX9_12 dX9_wall_8 (by first | assumption | decide | omega) (by assumption) rfl ?_
  refine k_iload_n (pc' := 12) dX9_wall_11 rfl ?_
  refine p_vI (ν := mX6_hasPoint) (pc' := 15) dX9_wall_12 ml_RX9_141 mo_X6_hasPoint mv_X6_hasPoint clX6 (Nat.le_of_ble_eq_true rfl) rfl rfl (Nat.le_of_ble_eq_true rfl) (by first | assumption | decide | omega) (by assumption) (by decide) (c_hasPoint x1 w) ?_
  refine k_if_eq (tgt := 22) (pc' := 18) dX9_wall_15 rfl (fun c_15 => ?_) (fun c_15 => ?_)
  · rw [bI_eq] at c_15
    refine k_iconst (pc' := 23) (v := -1) dX9_wall_22 rfl ?_
    refine p_ireturn dX9_wall_23 rfl ?_
    exact Or.inl ⟨fun q => c_15 q.2.1, rfl, hX, hi.rfl'⟩
  rw [bI_ne] at c_15
  refine k_iload_n (pc' := 19) dX9_wall_18 rfl ?_
  refine k_if_ge (tgt := 24) (pc' := 22) dX9_wall_19 rfl (fun c_19 => ?_) (fun c_19 => ?_)
  rotate_left
  · rw [iLe, i0] at c_19
    refine k_iconst (pc' := 23) (v := -1) dX9_wall_22 rfl ?_
    refine p_ireturn dX9_wall_23 rfl ?_
    exact Or.inl ⟨fun q => c_19 q.2.2, rfl, hX, hi.rfl'⟩
  rw [iLe, i0] at c_19
  obtain ⟨m, hm, rfl⟩ := nI_in0 (n := 4) (x := x) (by omega) (by omega) (by decide)
  have hm1 : 1 ≤ m := by
    have := c_4.1
    rw [nI_e (by omega)] at this
    omega
  obtain ⟨i, hi6, rfl⟩ := nI_in0 (n := A.1) c_15.1 c_15.2 (by omega)
  obtain ⟨k, hk, hyk⟩ : ∃ k, k < 2 ^ 31 ∧ y = nI k := by
    have hy := y.toInt_lt
    refine ⟨y.toInt.toNat, by omega, ?_⟩
    rw [iEq, nI_e (by omega)]
    omega
  have hyt : y.toInt.toNat = k := by rw [hyk, nI_e hk]; rfl
  rw [hyt]
  subst hyk
  obtain ⟨w0, fa, hw0, ⟨e, e48⟩, hT, h54, con⟩ := x_wkStart (m := m) hX
  refine k_aload_n (pc' := 25) dX9_wall_24 rfl ?_
  refine p_get (pc' := 28) clX9 (Nat.le_of_ble_eq_true rfl) fl_RX9_68 dX9_wall_25 (by first | assumption | decide | omega) (by assumption) rfl ?_
  refine k_aload_n (pc' := 29) dX9_wall_28 rfl ?_
  refine p_get (pc' := 32) clX9 (Nat.le_of_ble_eq_true rfl) fl_RX9_12 dX9_wall_29 (by first | assumption | decide | omega) (by assumption) rfl ?_
  refine k_iload_n (pc' := 33) dX9_wall_32 rfl ?_
  refine p_vV (ν := mX8_start) (pc' := 36) dX9_wall_33 ml_RX9_187 mo_X8_start mv_X8_start clX8 (Nat.le_of_ble_eq_true rfl) rfl rfl (Nat.le_of_ble_eq_true rfl) (by first | assumption | decide | omega) e48 (by decide) (con) ?_
  generalize hft : va_cpy A.2 fa 0 0 15 = ft at *
  generalize hσ : putT G σ 49 A.1 ft = σ1 at *
  have y0 : ∀ {st w}, putW G σ1 st A.1 m w 0 = ob 9 (xFs G I.1) := fun {st w} => by
    rw [pWn (by decide), ← hσ, putT_n (by decide) (by decide)]
    exact x0
  have yX : ∀ {st w}, wK w → isX G (putW G σ1 st A.1 m w) A B C I H T := fun {st w} hw => by
    rw [← hσ]
    exact hX.walk hN2 hN6 hw
  have yh : ∀ {st w}, hi σ (putW G σ1 st A.1 m w) := fun {st w} => by
    rw [← hσ]
    exact hi_walk
  refine k_aload_n (pc' := 37) dX9_wall_36 rfl ?_
  refine p_get (pc' := 40) clX9 (Nat.le_of_ble_eq_true rfl) fl_RX9_68 dX9_wall_37 (by first | assumption | decide | omega) y0 rfl ?_
  refine k_iload_n (pc' := 41) dX9_wall_40 rfl ?_
  refine p_vV (ν := mX8_goOnTimes) (pc' := 44) dX9_wall_41 ml_RX9_200 mo_X8_goOnTimes mv_X8_goOnTimes clX8 (Nat.le_of_ble_eq_true rfl) rfl rfl (Nat.le_of_ble_eq_true rfl) (by first | assumption | decide | omega) pW48 (by decide) (c_goOnTimes hT h54 hk) ?_
  have hR : itG A.1 m ft (min k 16807) (xS A.1 m ft w0) = xNth A.1 m ft w0 k := rfl
  have hK : wK (itG A.1 m ft (min k 16807) (xS A.1 m ft w0)).2 := itG_K _ _ (xS_K hw0)
  rw [hR] at hK ⊢
  generalize hR2 : xNth A.1 m ft w0 k = R at *
  by_cases hs : R.1 = 0
  · refine k_aload_n (pc' := 45) dX9_wall_44 rfl ?_
    refine p_get (pc' := 48) clX9 (Nat.le_of_ble_eq_true rfl) fl_RX9_68 dX9_wall_45 (by first | assumption | decide | omega) y0 rfl ?_
    refine p_get (pc' := 51) clX8 (Nat.le_of_ble_eq_true rfl) fl_RX9_191 dX9_wall_48 (by first | assumption | decide | omega) pW48 rfl ?_
    refine k_if_eq (tgt := 68) (pc' := 54) dX9_wall_51 rfl (fun _ => ?_) (fun zz_ => absurd hs zz_)
    refine k_bipush (pc' := 70) (v := -2) dX9_wall_68 rfl ?_
    refine p_ireturn dX9_wall_70 rfl ?_
    refine Or.inr ⟨m, i, rfl, hm1, by omega, rfl, hi6, c_19, w0, fa, hw0, ?_, yX hK, yh⟩
    rw [hft, hR2, if_pos hs]
  · refine k_aload_n (pc' := 45) dX9_wall_44 rfl ?_
    refine p_get (pc' := 48) clX9 (Nat.le_of_ble_eq_true rfl) fl_RX9_68 dX9_wall_45 (by first | assumption | decide | omega) y0 rfl ?_
    refine p_get (pc' := 51) clX8 (Nat.le_of_ble_eq_true rfl) fl_RX9_191 dX9_wall_48 (by first | assumption | decide | omega) pW48 rfl ?_
    refine k_if_eq (tgt := 68) (pc' := 54) dX9_wall_51 rfl (fun zz_ => absurd zz_ hs) (fun _ => ?_)
    refine k_aload_n (pc' := 55) dX9_wall_54 rfl ?_
    refine p_get (pc' := 58) clX9 (Nat.le_of_ble_eq_true rfl) fl_RX9_68 dX9_wall_55 (by first | assumption | decide | omega) y0 rfl ?_
    refine p_get (pc' := 61) clX8 (Nat.le_of_ble_eq_true rfl) fl_RX9_203 dX9_wall_58 (by first | assumption | decide | omega) pW48 rfl ?_
    refine k_iload_n (pc' := 62) dX9_wall_61 rfl ?_
    refine p_ialdN (pc' := 63) dX9_wall_62 (by first | assumption | decide | omega) pW51 (by first | decide | omega) (by omega) ?_
    refine k_iconst (pc' := 64) (v := nI 3) dX9_wall_63 rfl ?_
    refine k_iadd (pc' := 65) (v := R.2.1 i + nI 3) dX9_wall_64 rfl ?_
    refine k_goto (tgt := 70) dX9_wall_65 rfl ?_
    refine p_ireturn dX9_wall_70 rfl ?_
    refine Or.inr ⟨m, i, rfl, hm1, by omega, rfl, hi6, c_19, w0, fa, hw0, ?_, yX hK, yh⟩
    rw [hft, hR2, if_neg hs]
/-- a wall is held -/
def xHw (H : XH) (h N : Nat) (f : Nat → Int32) : XH := (va_up H.1 h 2, va_up H.2.1 h N, va_up H.2.2.1 h N, va_up H.2.2.2 h (va_cpy f (H.2.2.2 h) 0 0 N))
theorem x_holdWall (h : isX G σ A B C I H T) {x y w : Int32} : ConP G mX9_holdWall 7 [.ref (adr G 0), .int x, .int y, .int w] σ (fun v σ' => (¬ ((0 ≤ x.toInt ∧ x.toInt ≤ 5) ∧ (1 ≤ y.toInt ∧ y.toInt ≤ 3) ∧ 0 ≤ w.toInt) ∧ xI G σ (-1) A B C I H T v σ') ∨ ∃ h m, x = nI h ∧ h < 6 ∧ y = nI m ∧ 1 ≤ m ∧ m ≤ 3 ∧ 0 ≤ w.toInt ∧ ∃ w0 fa R, wK w0 ∧ R = xNth A.1 m (va_cpy A.2 fa 0 0 15) w0 w.toInt.toNat ∧ ((R.1 = 0 ∧ xI G σ (-2) A B C I H T v σ') ∨ (¬ R.1 = 0 ∧ xI G σ (wWid A.1 (va_cpy R.2.1 (H.2.2.2 h) 0 0 A.1)) A B C I (xHw H h A.1 R.2.1) T v σ'))) := by
  have hX := h
  obtain ⟨x0, x1, -⟩ := h
  have e1 := x1.2.2.1
  have hN2 := x1.2.2.2.2.1
  have hN6 := x1.2.2.2.2.2
  have hkW : kW = 104 := rfl
  refine ConP.of rfl (Nat.le_of_ble_eq_true rfl) ?_
  refine k_iload_n (pc' := 1) dX9_holdWall_0 rfl ?_
  refine p_sI (ν := mX9_isHolder) (pc' := 4) dX9_holdWall_1 ml_RX9_206 mo_X9_isHolder ms_X9_isHolder (Nat.le_of_ble_eq_true rfl) rfl rfl (Nat.le_of_ble_eq_true rfl) (by decide) (x_isHolder) ?_
  refine k_if_eq (tgt := 18) (pc' := 7) dX9_holdWall_4 rfl (fun c_4 => ?_) (fun c_4 => ?_)
  · rw [bI_eq] at c_4
    refine k_iconst (pc' := 19) (v := -1) dX9_holdWall_18 rfl ?_
    refine p_ireturn dX9_holdWall_19 rfl ?_
    exact Or.inl ⟨fun q => c_4 q.1, rfl, hX, hi.rfl'⟩
  rw [bI_ne] at c_4
  refine k_iload_n (pc' := 8) dX9_holdWall_7 rfl ?_
  refine p_sI (ν := mX9_isWidth) (pc' := 11) dX9_holdWall_8 ml_RX9_184 mo_X9_isWidth ms_X9_isWidth (Nat.le_of_ble_eq_true rfl) rfl rfl (Nat.le_of_ble_eq_true rfl) (by decide) (x_isWidth) ?_
  refine k_if_eq (tgt := 18) (pc' := 14) dX9_holdWall_11 rfl (fun c_11 => ?_) (fun c_11 => ?_)
  · rw [bI_eq] at c_11
    refine k_iconst (pc' := 19) (v := -1) dX9_holdWall_18 rfl ?_
    refine p_ireturn dX9_holdWall_19 rfl ?_
    exact Or.inl ⟨fun q => c_11 q.2.1, rfl, hX, hi.rfl'⟩
  rw [bI_ne] at c_11
  refine k_iload_n (pc' := 15) dX9_holdWall_14 rfl ?_
  refine k_if_ge (tgt := 20) (pc' := 18) dX9_holdWall_15 rfl (fun c_15 => ?_) (fun c_15 => ?_)
  rotate_left
  · rw [iLe, i0] at c_15
    refine k_iconst (pc' := 19) (v := -1) dX9_holdWall_18 rfl ?_
    refine p_ireturn dX9_holdWall_19 rfl ?_
    exact Or.inl ⟨fun q => c_15 q.2.2, rfl, hX, hi.rfl'⟩
  rw [iLe, i0] at c_15
  obtain ⟨h, hh, rfl⟩ := nI_in0 (n := 6) (x := x) (by omega) (by omega) (by decide)
  obtain ⟨m, hm, rfl⟩ := nI_in0 (n := 4) (x := y) (by omega) (by omega) (by decide)
  have hm1 : 1 ≤ m := by
    have := c_11.1
    rw [nI_e (by omega)] at this
    omega
  obtain ⟨k, hk, hyk⟩ : ∃ k, k < 2 ^ 31 ∧ w = nI k := by
    have hy := w.toInt_lt
    refine ⟨w.toInt.toNat, by omega, ?_⟩
    rw [iEq, nI_e (by omega)]
    omega
  have hyt : w.toInt.toNat = k := by rw [hyk, nI_e hk]; rfl
  rw [hyt]
  subst hyk
  obtain ⟨w0, fa, hw0, ⟨e, e48⟩, hT, h54, con⟩ := x_wkStart (m := m) hX
  refine k_aload_n (pc' := 21) dX9_holdWall_20 rfl ?_
  refine p_get (pc' := 24) clX9 (Nat.le_of_ble_eq_true rfl) fl_RX9_68 dX9_holdWall_21 (by first | assumption | decide | omega) (by assumption) rfl ?_
  refine k_aload_n (pc' := 25) dX9_holdWall_24 rfl ?_
  refine p_get (pc' := 28) clX9 (Nat.le_of_ble_eq_true rfl) fl_RX9_12 dX9_holdWall_25 (by first | assumption | decide | omega) (by assumption) rfl ?_
  refine k_iload_n (pc' := 29) dX9_holdWall_28 rfl ?_
  refine p_vV (ν := mX8_start) (pc' := 32) dX9_holdWall_29 ml_RX9_187 mo_X8_start mv_X8_start clX8 (Nat.le_of_ble_eq_true rfl) rfl rfl (Nat.le_of_ble_eq_true rfl) (by first | assumption | decide | omega) e48 (by decide) (con) ?_
  generalize hft : va_cpy A.2 fa 0 0 15 = ft at *
  generalize hσ : putT G σ 49 A.1 ft = σ1 at *
  have y0 : ∀ {st w}, putW G σ1 st A.1 m w 0 = ob 9 (xFs G I.1) := fun {st w} => by
    rw [pWn (by decide), ← hσ, putT_n (by decide) (by decide)]
    exact x0
  have yX : ∀ {st w}, wK w → isX G (putW G σ1 st A.1 m w) A B C I H T := fun {st w} hw => by
    rw [← hσ]
    exact hX.walk hN2 hN6 hw
  have yh : ∀ {st w}, hi σ (putW G σ1 st A.1 m w) := fun {st w} => by
    rw [← hσ]
    exact hi_walk
  refine k_aload_n (pc' := 33) dX9_holdWall_32 rfl ?_
  refine p_get (pc' := 36) clX9 (Nat.le_of_ble_eq_true rfl) fl_RX9_68 dX9_holdWall_33 (by first | assumption | decide | omega) y0 rfl ?_
  refine k_iload_n (pc' := 37) dX9_holdWall_36 rfl ?_
  refine p_vV (ν := mX8_goOnTimes) (pc' := 40) dX9_holdWall_37 ml_RX9_200 mo_X8_goOnTimes mv_X8_goOnTimes clX8 (Nat.le_of_ble_eq_true rfl) rfl rfl (Nat.le_of_ble_eq_true rfl) (by first | assumption | decide | omega) pW48 (by decide) (c_goOnTimes hT h54 hk) ?_
  have hR : itG A.1 m ft (min k 16807) (xS A.1 m ft w0) = xNth A.1 m ft w0 k := rfl
  have hK : wK (itG A.1 m ft (min k 16807) (xS A.1 m ft w0)).2 := itG_K _ _ (xS_K hw0)
  rw [hR] at hK ⊢
  generalize hR2 : xNth A.1 m ft w0 k = R at *
  by_cases hs : R.1 = 0
  · refine k_aload_n (pc' := 41) dX9_holdWall_40 rfl ?_
    refine p_get (pc' := 44) clX9 (Nat.le_of_ble_eq_true rfl) fl_RX9_68 dX9_holdWall_41 (by first | assumption | decide | omega) y0 rfl ?_
    refine p_get (pc' := 47) clX8 (Nat.le_of_ble_eq_true rfl) fl_RX9_191 dX9_holdWall_44 (by first | assumption | decide | omega) pW48 rfl ?_
    refine k_if_ne (tgt := 53) (pc' := 50) dX9_holdWall_47 rfl (fun zz_ => absurd hs zz_) (fun _ => ?_)
    refine k_bipush (pc' := 52) (v := -2) dX9_holdWall_50 rfl ?_
    refine p_ireturn dX9_holdWall_52 rfl ?_
    exact Or.inr ⟨h, m, rfl, hh, rfl, hm1, by omega, c_15, w0, fa, R, hw0, by rw [hft, hR2], Or.inl ⟨hs, rfl, yX hK, yh⟩⟩
  · have z1 := (yX (st := R.1) hK).2.1
    have zX := yX (st := R.1) hK
    have z31 := zX.2.2.2.2.2.2.2.1
    have zh := zX.2.2.2.2.2.2.2.2.1 h hh
    have f1 := z1.2.2.1
    have f32 := zh.2.1
    refine k_aload_n (pc' := 41) dX9_holdWall_40 rfl ?_
    refine p_get (pc' := 44) clX9 (Nat.le_of_ble_eq_true rfl) fl_RX9_68 dX9_holdWall_41 (by first | assumption | decide | omega) y0 rfl ?_
    refine p_get (pc' := 47) clX8 (Nat.le_of_ble_eq_true rfl) fl_RX9_191 dX9_holdWall_44 (by first | assumption | decide | omega) pW48 rfl ?_
    refine k_if_ne (tgt := 53) (pc' := 50) dX9_holdWall_47 rfl (fun _ => ?_) (fun zz_ => absurd zz_ hs)
    refine k_aload_n (pc' := 54) dX9_holdWall_53 rfl ?_
    refine p_get (pc' := 57) clX9 (Nat.le_of_ble_eq_true rfl) fl_RX9_47 dX9_holdWall_54 (by first | assumption | decide | omega) y0 rfl ?_
    refine k_iload_n (pc' := 58) dX9_holdWall_57 rfl ?_
    refine p_aaldN (pc' := 59) (t0 := 4) dX9_holdWall_58 rfl rfl (by first | assumption | decide | omega) (by assumption) (by decide) (by omega) ?_
    refine k_iconst (pc' := 60) (v := nI 2) dX9_holdWall_59 rfl ?_
    refine k_aload_n (pc' := 61) dX9_holdWall_60 rfl ?_
    refine p_get (pc' := 64) clX9 (Nat.le_of_ble_eq_true rfl) fl_RX9_12 dX9_holdWall_61 (by first | assumption | decide | omega) y0 rfl ?_
    refine p_get (pc' := 67) clX6 (Nat.le_of_ble_eq_true rfl) fl_RX9_87 dX9_holdWall_64 (by first | assumption | decide | omega) (by assumption) rfl ?_
    refine k_aload_n (pc' := 68) dX9_holdWall_67 rfl ?_
    refine p_get (pc' := 71) clX9 (Nat.le_of_ble_eq_true rfl) fl_RX9_12 dX9_holdWall_68 (by first | assumption | decide | omega) y0 rfl ?_
    refine p_get (pc' := 74) clX6 (Nat.le_of_ble_eq_true rfl) fl_RX9_87 dX9_holdWall_71 (by first | assumption | decide | omega) (by assumption) rfl ?_
    refine k_aload_n (pc' := 75) dX9_holdWall_74 rfl ?_
    refine p_get (pc' := 78) clX9 (Nat.le_of_ble_eq_true rfl) fl_RX9_68 dX9_holdWall_75 (by first | assumption | decide | omega) y0 rfl ?_
    refine p_get (pc' := 81) clX8 (Nat.le_of_ble_eq_true rfl) fl_RX9_203 dX9_holdWall_78 (by first | assumption | decide | omega) pW48 rfl ?_
    refine p_vV (ν := mX1_take) (pc' := 84) dX9_holdWall_81 ml_RX9_209 mo_X1_take mv_X1_take clX1 (Nat.le_of_ble_eq_true rfl) rfl rfl (Nat.le_of_ble_eq_true rfl) (by first | assumption | decide | omega) (by assumption) (by decide) (c_take zh (k := 2) (o := A.1) (s := A.1) (q := 51) (L := 6) (f := R.2.1) (by decide) (by omega) pW51 (by omega) (by omega) (by decide)) ?_
    have zY := zX.hold hh (kd := 2) (op := A.1) (S := A.1) (nu := va_cpy R.2.1 (H.2.2.2 h) 0 0 A.1) (by omega)
    have u0 := zY.1
    have u31 := zY.2.2.2.2.2.2.2.1
    have uh := putH_H (k := 2) (o := A.1) (s := A.1) (f := va_cpy R.2.1 (H.2.2.2 h) 0 0 A.1) zh (by omega)
    have u32 := uh.2.1
    refine k_aload_n (pc' := 85) dX9_holdWall_84 rfl ?_
    refine p_get (pc' := 88) clX9 (Nat.le_of_ble_eq_true rfl) fl_RX9_47 dX9_holdWall_85 (by first | assumption | decide | omega) (by assumption) rfl ?_
    refine k_iload_n (pc' := 89) dX9_holdWall_88 rfl ?_
    refine p_aaldN (pc' := 90) (t0 := 4) dX9_holdWall_89 rfl rfl (by first | assumption | decide | omega) (by assumption) (by decide) (by omega) ?_
    refine p_vI (ν := mX1_width) (pc' := 93) dX9_holdWall_90 ml_RX9_213 mo_X1_width mv_X1_width clX1 (Nat.le_of_ble_eq_true rfl) rfl rfl (Nat.le_of_ble_eq_true rfl) (by first | assumption | decide | omega) (by assumption) (by decide) (c_width uh) ?_
    refine p_ireturn dX9_holdWall_93 rfl ?_
    exact Or.inr ⟨h, m, rfl, hh, rfl, hm1, by omega, c_15, w0, fa, R, hw0, by rw [hft, hR2], Or.inr ⟨hs, rfl, zY, fun q hq => (putH_n (by omega) (by omega)).trans (yh q hq)⟩⟩
theorem x_wallOf (h : isX G σ A B C I H T) {x y : Int32} : ConP G mX9_wallOf 3 [.ref (adr G 0), .int x, .int y] σ (fun v σ' => (¬ ((0 ≤ x.toInt ∧ x.toInt ≤ 5) ∧ (0 ≤ y.toInt ∧ y.toInt ≤ 5)) ∧ xI G σ (-1) A B C I H T v σ') ∨ ∃ h f, x = nI h ∧ h < 6 ∧ y = nI f ∧ f < 6 ∧ ((¬ xRk H f 3 = 0 ∧ xI G σ (xRk H f 3) A B C I H T v σ') ∨ (xRk H f 3 = 0 ∧ ¬ (A.1 ≤ H.2.2.1 f ∧ wIn A.1 (H.2.2.2 f) ∧ wSum A.1 (H.2.2.2 f) = 1) ∧ xI G σ (-5) A B C I H T v σ') ∨ (xRk H f 3 = 0 ∧ (A.1 ≤ H.2.2.1 f ∧ wIn A.1 (H.2.2.2 f) ∧ wSum A.1 (H.2.2.2 f) = 1) ∧ xI G σ (wWid A.1 (va_cpy (H.2.2.2 f) (H.2.2.2 h) 0 0 A.1)) A B C I (xHw H h A.1 (H.2.2.2 f)) T v σ'))) := by
  have hX := h
  obtain ⟨x0, x1, -, -, -, -, -, x31, xh, -⟩ := h
  have e1 := x1.2.2.1
  have hN2 := x1.2.2.2.2.1
  have hN6 := x1.2.2.2.2.2
  have hkW : kW = 104 := rfl
  refine ConP.of rfl (Nat.le_of_ble_eq_true rfl) ?_
  refine k_iload_n (pc' := 1) dX9_wallOf_0 rfl ?_
  refine p_sI (ν := mX9_isHolder) (pc' := 4) dX9_wallOf_1 ml_RX9_206 mo_X9_isHolder ms_X9_isHolder (Nat.le_of_ble_eq_true rfl) rfl rfl (Nat.le_of_ble_eq_true rfl) (by decide) (x_isHolder) ?_
  refine k_if_ne (tgt := 9) (pc' := 7) dX9_wallOf_4 rfl (fun c_4 => ?_) (fun c_4 => ?_)
  rotate_left
  · rw [bI_eq] at c_4
    refine k_iconst (pc' := 8) (v := -1) dX9_wallOf_7 rfl ?_
    refine p_ireturn dX9_wallOf_8 rfl ?_
    exact Or.inl ⟨fun q => c_4 q.1, rfl, hX, hi.rfl'⟩
  rw [bI_ne] at c_4
  obtain ⟨h, hh, rfl⟩ := nI_in0 (n := 6) (x := x) (by omega) (by omega) (by decide)
  by_cases hy : 0 ≤ y.toInt ∧ y.toInt ≤ 5
  rotate_left
  · refine k_aload_n (pc' := 10) dX9_wallOf_9 rfl ?_
    refine k_iload_n (pc' := 11) dX9_wallOf_10 rfl ?_
    refine k_iconst (pc' := 12) (v := nI 3) dX9_wallOf_11 rfl ?_
    refine p_vI (ν := mX9_refusalOfKind) (pc' := 15) dX9_wallOf_12 ml_RX9_216 mo_X9_refusalOfKind mv_X9_refusalOfKind clX9 (Nat.le_of_ble_eq_true rfl) rfl rfl (Nat.le_of_ble_eq_true rfl) (by first | assumption | decide | omega) (by assumption) (by decide) (x_rkBad hy) ?_
    refine k_istore_n (pc' := 16) dX9_wallOf_15 (Nat.le_of_ble_eq_true rfl) rfl ?_
    refine k_iload_n (pc' := 17) dX9_wallOf_16 rfl ?_
    refine k_if_eq (tgt := 22) (pc' := 20) dX9_wallOf_17 rfl (fun zz_ => absurd zz_ (by decide)) (fun _ => ?_)
    refine k_iload_n (pc' := 21) dX9_wallOf_20 rfl ?_
    refine p_ireturn dX9_wallOf_21 rfl ?_
    exact Or.inl ⟨fun q => hy q.2, rfl, hX, hi.rfl'⟩
  obtain ⟨f, hf, rfl⟩ := nI_in0 (n := 6) (x := y) (by omega) (by omega) (by decide)
  have yh := xh h hh
  have yf := xh f hf
  have e32 := yh.2.1
  have f32 := yf.2.1
  have f33 := yf.2.2.1
  by_cases h1 : xRk H f 3 = 0
  rotate_left
  · refine k_aload_n (pc' := 10) dX9_wallOf_9 rfl ?_
    refine k_iload_n (pc' := 11) dX9_wallOf_10 rfl ?_
    refine k_iconst (pc' := 12) (v := nI 3) dX9_wallOf_11 rfl ?_
    refine p_vI (ν := mX9_refusalOfKind) (pc' := 15) dX9_wallOf_12 ml_RX9_216 mo_X9_refusalOfKind mv_X9_refusalOfKind clX9 (Nat.le_of_ble_eq_true rfl) rfl rfl (Nat.le_of_ble_eq_true rfl) (by first | assumption | decide | omega) (by assumption) (by decide) (x_rk hX hf) ?_
    refine k_istore_n (pc' := 16) dX9_wallOf_15 (Nat.le_of_ble_eq_true rfl) rfl ?_
    refine k_iload_n (pc' := 17) dX9_wallOf_16 rfl ?_
    refine k_if_eq (tgt := 22) (pc' := 20) dX9_wallOf_17 rfl (fun zz_ => absurd zz_ h1) (fun _ => ?_)
    refine k_iload_n (pc' := 21) dX9_wallOf_20 rfl ?_
    refine p_ireturn dX9_wallOf_21 rfl ?_
    exact Or.inr ⟨h, f, rfl, hh, rfl, hf, Or.inl ⟨h1, rfl, hX, hi.rfl'⟩⟩
  by_cases h2 : A.1 ≤ H.2.2.1 f ∧ wIn A.1 (H.2.2.2 f) ∧ wSum A.1 (H.2.2.2 f) = 1
  rotate_left
  · refine k_aload_n (pc' := 10) dX9_wallOf_9 rfl ?_
    refine k_iload_n (pc' := 11) dX9_wallOf_10 rfl ?_
    refine k_iconst (pc' := 12) (v := nI 3) dX9_wallOf_11 rfl ?_
    refine p_vI (ν := mX9_refusalOfKind) (pc' := 15) dX9_wallOf_12 ml_RX9_216 mo_X9_refusalOfKind mv_X9_refusalOfKind clX9 (Nat.le_of_ble_eq_true rfl) rfl rfl (Nat.le_of_ble_eq_true rfl) (by first | assumption | decide | omega) (by assumption) (by decide) (x_rk hX hf) ?_
    refine k_istore_n (pc' := 16) dX9_wallOf_15 (Nat.le_of_ble_eq_true rfl) rfl ?_
    refine k_iload_n (pc' := 17) dX9_wallOf_16 rfl ?_
    refine k_if_eq (tgt := 22) (pc' := 20) dX9_wallOf_17 rfl (fun _ => ?_) (fun zz_ => absurd h1 zz_)
    refine k_aload_n (pc' := 23) dX9_wallOf_22 rfl ?_
    refine p_get (pc' := 26) clX9 (Nat.le_of_ble_eq_true rfl) fl_RX9_47 dX9_wallOf_23 (by first | assumption | decide | omega) (by assumption) rfl ?_
    refine k_iload_n (pc' := 27) dX9_wallOf_26 rfl ?_
    refine p_aaldN (pc' := 28) (t0 := 4) dX9_wallOf_27 rfl rfl (by first | assumption | decide | omega) (by assumption) (by decide) (by omega) ?_
    refine k_aload_n (pc' := 29) dX9_wallOf_28 rfl ?_
    refine p_get (pc' := 32) clX9 (Nat.le_of_ble_eq_true rfl) fl_RX9_12 dX9_wallOf_29 (by first | assumption | decide | omega) (by assumption) rfl ?_
    refine p_get (pc' := 35) clX6 (Nat.le_of_ble_eq_true rfl) fl_RX9_87 dX9_wallOf_32 (by first | assumption | decide | omega) (by assumption) rfl ?_
    refine p_vI (ν := mX1_tellsWall) (pc' := 38) dX9_wallOf_35 ml_RX9_219 mo_X1_tellsWall mv_X1_tellsWall clX1 (Nat.le_of_ble_eq_true rfl) rfl rfl (Nat.le_of_ble_eq_true rfl) (by first | assumption | decide | omega) (by assumption) (by decide) (c_tellsWall yf (by omega)) ?_
    refine k_if_ne (tgt := 44) (pc' := 41) dX9_wallOf_38 rfl (fun zz_ => absurd (by rw [bI_eq]; exact h2) zz_) (fun _ => ?_)
    refine k_bipush (pc' := 43) (v := -5) dX9_wallOf_41 rfl ?_
    refine p_ireturn dX9_wallOf_43 rfl ?_
    exact Or.inr ⟨h, f, rfl, hh, rfl, hf, Or.inr (Or.inl ⟨h1, h2, rfl, hX, hi.rfl'⟩)⟩
  refine k_aload_n (pc' := 10) dX9_wallOf_9 rfl ?_
  refine k_iload_n (pc' := 11) dX9_wallOf_10 rfl ?_
  refine k_iconst (pc' := 12) (v := nI 3) dX9_wallOf_11 rfl ?_
  refine p_vI (ν := mX9_refusalOfKind) (pc' := 15) dX9_wallOf_12 ml_RX9_216 mo_X9_refusalOfKind mv_X9_refusalOfKind clX9 (Nat.le_of_ble_eq_true rfl) rfl rfl (Nat.le_of_ble_eq_true rfl) (by first | assumption | decide | omega) (by assumption) (by decide) (x_rk hX hf) ?_
  refine k_istore_n (pc' := 16) dX9_wallOf_15 (Nat.le_of_ble_eq_true rfl) rfl ?_
  refine k_iload_n (pc' := 17) dX9_wallOf_16 rfl ?_
  refine k_if_eq (tgt := 22) (pc' := 20) dX9_wallOf_17 rfl (fun _ => ?_) (fun zz_ => absurd h1 zz_)
  refine k_aload_n (pc' := 23) dX9_wallOf_22 rfl ?_
  refine p_get (pc' := 26) clX9 (Nat.le_of_ble_eq_true rfl) fl_RX9_47 dX9_wallOf_23 (by first | assumption | decide | omega) (by assumption) rfl ?_
  refine k_iload_n (pc' := 27) dX9_wallOf_26 rfl ?_
  refine p_aaldN (pc' := 28) (t0 := 4) dX9_wallOf_27 rfl rfl (by first | assumption | decide | omega) (by assumption) (by decide) (by omega) ?_
  refine k_aload_n (pc' := 29) dX9_wallOf_28 rfl ?_
  refine p_get (pc' := 32) clX9 (Nat.le_of_ble_eq_true rfl) fl_RX9_12 dX9_wallOf_29 (by first | assumption | decide | omega) (by assumption) rfl ?_
  refine p_get (pc' := 35) clX6 (Nat.le_of_ble_eq_true rfl) fl_RX9_87 dX9_wallOf_32 (by first | assumption | decide | omega) (by assumption) rfl ?_
  refine p_vI (ν := mX1_tellsWall) (pc' := 38) dX9_wallOf_35 ml_RX9_219 mo_X1_tellsWall mv_X1_tellsWall clX1 (Nat.le_of_ble_eq_true rfl) rfl rfl (Nat.le_of_ble_eq_true rfl) (by first | assumption | decide | omega) (by assumption) (by decide) (c_tellsWall yf (by omega)) ?_
  refine k_if_ne (tgt := 44) (pc' := 41) dX9_wallOf_38 rfl (fun _ => ?_) (fun zz_ => absurd zz_ (by rw [bI_eq]; exact fun q => q h2))
  refine k_aload_n (pc' := 45) dX9_wallOf_44 rfl ?_
  refine p_get (pc' := 48) clX9 (Nat.le_of_ble_eq_true rfl) fl_RX9_47 dX9_wallOf_45 (by first | assumption | decide | omega) (by assumption) rfl ?_
  refine k_iload_n (pc' := 49) dX9_wallOf_48 rfl ?_
  refine p_aaldN (pc' := 50) (t0 := 4) dX9_wallOf_49 rfl rfl (by first | assumption | decide | omega) (by assumption) (by decide) (by omega) ?_
  refine k_iconst (pc' := 51) (v := nI 2) dX9_wallOf_50 rfl ?_
  refine k_aload_n (pc' := 52) dX9_wallOf_51 rfl ?_
  refine p_get (pc' := 55) clX9 (Nat.le_of_ble_eq_true rfl) fl_RX9_12 dX9_wallOf_52 (by first | assumption | decide | omega) (by assumption) rfl ?_
  refine p_get (pc' := 58) clX6 (Nat.le_of_ble_eq_true rfl) fl_RX9_87 dX9_wallOf_55 (by first | assumption | decide | omega) (by assumption) rfl ?_
  refine k_aload_n (pc' := 59) dX9_wallOf_58 rfl ?_
  refine p_get (pc' := 62) clX9 (Nat.le_of_ble_eq_true rfl) fl_RX9_12 dX9_wallOf_59 (by first | assumption | decide | omega) (by assumption) rfl ?_
  refine p_get (pc' := 65) clX6 (Nat.le_of_ble_eq_true rfl) fl_RX9_87 dX9_wallOf_62 (by first | assumption | decide | omega) (by assumption) rfl ?_
  refine k_aload_n (pc' := 66) dX9_wallOf_65 rfl ?_
  refine p_get (pc' := 69) clX9 (Nat.le_of_ble_eq_true rfl) fl_RX9_47 dX9_wallOf_66 (by first | assumption | decide | omega) (by assumption) rfl ?_
  refine k_iload_n (pc' := 70) dX9_wallOf_69 rfl ?_
  refine p_aaldN (pc' := 71) (t0 := 4) dX9_wallOf_70 rfl rfl (by first | assumption | decide | omega) (by assumption) (by decide) (by omega) ?_
  refine p_get (pc' := 74) clX1 (Nat.le_of_ble_eq_true rfl) fl_RX9_222 dX9_wallOf_71 (by first | assumption | decide | omega) (by assumption) rfl ?_
  refine p_vV (ν := mX1_take) (pc' := 77) dX9_wallOf_74 ml_RX9_209 mo_X1_take mv_X1_take clX1 (Nat.le_of_ble_eq_true rfl) rfl rfl (Nat.le_of_ble_eq_true rfl) (by first | assumption | decide | omega) (by assumption) (by decide) (c_take yh (k := 2) (o := A.1) (s := A.1) (q := 32 + 2 * f + 1) (L := 20) (f := H.2.2.2 f) (by omega) (by omega) f33 (by omega) (by omega) (by decide)) ?_
  have zY := hX.hold hh (kd := 2) (op := A.1) (S := A.1) (nu := va_cpy (H.2.2.2 f) (H.2.2.2 h) 0 0 A.1) (by omega)
  have u0 := zY.1
  have u31 := zY.2.2.2.2.2.2.2.1
  have uh := putH_H (k := 2) (o := A.1) (s := A.1) (f := va_cpy (H.2.2.2 f) (H.2.2.2 h) 0 0 A.1) yh (by omega)
  have u32 := uh.2.1
  refine k_aload_n (pc' := 78) dX9_wallOf_77 rfl ?_
  refine p_get (pc' := 81) clX9 (Nat.le_of_ble_eq_true rfl) fl_RX9_47 dX9_wallOf_78 (by first | assumption | decide | omega) (by assumption) rfl ?_
  refine k_iload_n (pc' := 82) dX9_wallOf_81 rfl ?_
  refine p_aaldN (pc' := 83) (t0 := 4) dX9_wallOf_82 rfl rfl (by first | assumption | decide | omega) (by assumption) (by decide) (by omega) ?_
  refine p_vI (ν := mX1_width) (pc' := 86) dX9_wallOf_83 ml_RX9_213 mo_X1_width mv_X1_width clX1 (Nat.le_of_ble_eq_true rfl) rfl rfl (Nat.le_of_ble_eq_true rfl) (by first | assumption | decide | omega) (by assumption) (by decide) (c_width uh) ?_
  refine p_ireturn dX9_wallOf_86 rfl ?_
  exact Or.inr ⟨h, f, rfl, hh, rfl, hf, Or.inr (Or.inr ⟨h1, h2, rfl, zY, fun q hq => putH_n (by omega) (by omega)⟩)⟩
def xVa1 (N : Nat) (b f : Nat → Int32) (i j : Nat) (s : Int32) : Int32 := s + b i * b j * dT N f i j
def xVa2 (N : Nat) (b f : Nat → Int32) (i : Nat) (s : Int32) : Int32 := upn (N - (i + 1)) (i + 1) (xVa1 N b f i) s
def xVa (N : Nat) (b f : Nat → Int32) : Int32 := upn N 0 (xVa2 N b f) (nI 0)
theorem x_value (h : isX G σ A B C I H T) {x : Int32} : ConP G mX9_value 4 [.ref (adr G 0), .int x] σ (fun v σ' => (¬ (0 ≤ x.toInt ∧ x.toInt ≤ 5) ∧ xL G σ (-9223372036854775808) A B C I H T v σ') ∨ ∃ h, x = nI h ∧ h < 6 ∧ ((¬ xRw A H h = 0 ∧ xL G σ (-9223372036854775808) A B C I H T v σ') ∨ (xRw A H h = 0 ∧ xL G σ (xVa A.1 (H.2.2.2 h) A.2).toInt64 A B C I H T v σ'))) := by
  have hX := h
  obtain ⟨x0, x1, -, -, -, -, -, x31, xh, -⟩ := h
  have e1 := x1.2.2.1
  have hN6 := x1.2.2.2.2.2
  have hkW : kW = 104 := rfl
  refine ConP.of rfl (Nat.le_of_ble_eq_true rfl) ?_
  generalize hQ : (fun v σ' => (¬ (0 ≤ x.toInt ∧ x.toInt ≤ 5) ∧ xL G σ (-9223372036854775808) A B C I H T v σ') ∨ ∃ h, x = nI h ∧ h < 6 ∧ ((¬ xRw A H h = 0 ∧ xL G σ (-9223372036854775808) A B C I H T v σ') ∨ (xRw A H h = 0 ∧ xL G σ (xVa A.1 (H.2.2.2 h) A.2).toInt64 A B C I H T v σ'))) = Qf
  by_cases hx : 0 ≤ x.toInt ∧ x.toInt ≤ 5
  rotate_left
  · refine k_aload_n (pc' := 1) dX9_value_0 rfl ?_
    refine k_iload_n (pc' := 2) dX9_value_1 rfl ?_
    refine p_vI (ν := mX9_refusalOfWall) (pc' := 5) dX9_value_2 ml_RX9_225 mo_X9_refusalOfWall mv_X9_refusalOfWall clX9 (Nat.le_of_ble_eq_true rfl) rfl rfl (Nat.le_of_ble_eq_true rfl) (by first | assumption | decide | omega) (by assumption) (by decide) (x_rwBad hX hx) ?_
    refine k_if_eq (tgt := 12) (pc' := 8) dX9_value_5 rfl (fun zz_ => absurd zz_ (by decide)) (fun _ => ?_)
    refine k_ldc2 (pc' := 11)  dX9_value_8 cl_RX9_228 ?_
    refine p_lreturn dX9_value_11 rfl ?_
    rw [← hQ]
    exact Or.inl ⟨hx, rfl, hX, hi.rfl'⟩
  obtain ⟨h, hh, rfl⟩ := nI_in0 (n := 6) (x := x) (by omega) (by omega) (by decide)
  have yh := xh h hh
  have e32 := yh.2.1
  have e33 := yh.2.2.1
  by_cases h1 : xRw A H h = 0
  rotate_left
  · refine k_aload_n (pc' := 1) dX9_value_0 rfl ?_
    refine k_iload_n (pc' := 2) dX9_value_1 rfl ?_
    refine p_vI (ν := mX9_refusalOfWall) (pc' := 5) dX9_value_2 ml_RX9_225 mo_X9_refusalOfWall mv_X9_refusalOfWall clX9 (Nat.le_of_ble_eq_true rfl) rfl rfl (Nat.le_of_ble_eq_true rfl) (by first | assumption | decide | omega) (by assumption) (by decide) (x_rw hX hh) ?_
    refine k_if_eq (tgt := 12) (pc' := 8) dX9_value_5 rfl (fun zz_ => absurd zz_ h1) (fun _ => ?_)
    refine k_ldc2 (pc' := 11)  dX9_value_8 cl_RX9_228 ?_
    refine p_lreturn dX9_value_11 rfl ?_
    rw [← hQ]
    exact Or.inr ⟨h, rfl, hh, Or.inl ⟨h1, rfl, hX, hi.rfl'⟩⟩
  refine k_aload_n (pc' := 1) dX9_value_0 rfl ?_
  refine k_iload_n (pc' := 2) dX9_value_1 rfl ?_
  refine p_vI (ν := mX9_refusalOfWall) (pc' := 5) dX9_value_2 ml_RX9_225 mo_X9_refusalOfWall mv_X9_refusalOfWall clX9 (Nat.le_of_ble_eq_true rfl) rfl rfl (Nat.le_of_ble_eq_true rfl) (by first | assumption | decide | omega) (by assumption) (by decide) (x_rw hX hh) ?_
  refine k_if_eq (tgt := 12) (pc' := 8) dX9_value_5 rfl (fun _ => ?_) (fun zz_ => absurd h1 zz_)
  refine k_aload_n (pc' := 13) dX9_value_12 rfl ?_
  refine p_get (pc' := 16) clX9 (Nat.le_of_ble_eq_true rfl) fl_RX9_47 dX9_value_13 (by first | assumption | decide | omega) (by assumption) rfl ?_
  refine k_iload_n (pc' := 17) dX9_value_16 rfl ?_
  refine p_aaldN (pc' := 18) (t0 := 4) dX9_value_17 rfl rfl (by first | assumption | decide | omega) (by assumption) (by decide) (by omega) ?_
  refine p_get (pc' := 21) clX1 (Nat.le_of_ble_eq_true rfl) fl_RX9_222 dX9_value_18 (by first | assumption | decide | omega) (by assumption) rfl ?_
  refine k_astore_n (pc' := 22) dX9_value_21 (Nat.le_of_ble_eq_true rfl) rfl ?_
  refine k_iconst (pc' := 23) (v := nI 0) dX9_value_22 rfl ?_
  refine k_istore_n (pc' := 24) dX9_value_23 (Nat.le_of_ble_eq_true rfl) rfl ?_
  refine k_iconst (pc' := 25) (v := nI 0) dX9_value_24 rfl ?_
  refine k_istore (pc' := 27) dX9_value_25 (Nat.le_of_ble_eq_true rfl) rfl ?_
  refine loopU (fun i s => ∀ y, OkP G mX9_value 4 Qf 27 [some (.ref (adr G 0)), some (.int (nI h)), some (.ref (adr G (32 + 2 * h + 1))), some (.int s), some (.int (nI i)), y] [] σ) (xVa2 A.1 (H.2.2.2 h) A.2) A.1 0 A.1 (nI 0) (by omega) ?_ ?_ none
  · intro i s _ hi' ih y
    refine k_iload (pc' := 29) dX9_value_27 rfl ?_
    refine k_aload_n (pc' := 30) dX9_value_29 rfl ?_
    refine p_get (pc' := 33) clX9 (Nat.le_of_ble_eq_true rfl) fl_RX9_12 dX9_value_30 (by first | assumption | decide | omega) (by assumption) rfl ?_
    refine p_get (pc' := 36) clX6 (Nat.le_of_ble_eq_true rfl) fl_RX9_87 dX9_value_33 (by first | assumption | decide | omega) (by assumption) rfl ?_
    refine k_icmp_ge (tgt := 93) (pc' := 39) dX9_value_36 rfl (fun zz_ => absurd zz_ (nI_ge (by omega) (by omega))) (fun _ => ?_)
    refine k_iload (pc' := 41) dX9_value_39 rfl ?_
    refine k_iconst (pc' := 42) (v := nI 1) dX9_value_41 rfl ?_
    refine k_iadd (pc' := 43) dX9_value_42 (by first | exact nI_add _ _ | rfl) ?_
    refine k_istore (pc' := 45) dX9_value_43 (Nat.le_of_ble_eq_true rfl) rfl ?_
    refine loopU (fun j s => OkP G mX9_value 4 Qf 45 [some (.ref (adr G 0)), some (.int (nI h)), some (.ref (adr G (32 + 2 * h + 1))), some (.int s), some (.int (nI i)), some (.int (nI j))] [] σ) (xVa1 A.1 (H.2.2.2 h) A.2 i) A.1 (i + 1) (A.1 - (i + 1)) s (by omega) ?_ ?_
    · intro j s h2 hj ih2
      refine k_iload (pc' := 47) dX9_value_45 rfl ?_
      refine k_aload_n (pc' := 48) dX9_value_47 rfl ?_
      refine p_get (pc' := 51) clX9 (Nat.le_of_ble_eq_true rfl) fl_RX9_12 dX9_value_48 (by first | assumption | decide | omega) (by assumption) rfl ?_
      refine p_get (pc' := 54) clX6 (Nat.le_of_ble_eq_true rfl) fl_RX9_87 dX9_value_51 (by first | assumption | decide | omega) (by assumption) rfl ?_
      refine k_icmp_ge (tgt := 87) (pc' := 57) dX9_value_54 rfl (fun zz_ => absurd zz_ (nI_ge (by omega) (by omega))) (fun _ => ?_)
      refine k_iload_n (pc' := 58) dX9_value_57 rfl ?_
      refine k_aload_n (pc' := 59) dX9_value_58 rfl ?_
      refine k_iload (pc' := 61) dX9_value_59 rfl ?_
      refine p_ialdN (pc' := 62) dX9_value_61 (by first | assumption | decide | omega) (by assumption) (by first | decide | omega) (by omega) ?_
      refine k_aload_n (pc' := 63) dX9_value_62 rfl ?_
      refine k_iload (pc' := 65) dX9_value_63 rfl ?_
      refine p_ialdN (pc' := 66) dX9_value_65 (by first | assumption | decide | omega) (by assumption) (by first | decide | omega) (by omega) ?_
      refine k_imul (pc' := 67) (v := H.2.2.2 h i * H.2.2.2 h j) dX9_value_66 rfl ?_
      refine k_aload_n (pc' := 68) dX9_value_67 rfl ?_
      refine p_get (pc' := 71) clX9 (Nat.le_of_ble_eq_true rfl) fl_RX9_12 dX9_value_68 (by first | assumption | decide | omega) (by assumption) rfl ?_
      refine k_iload (pc' := 73) dX9_value_71 rfl ?_
      refine k_iload (pc' := 75) dX9_value_73 rfl ?_
      refine p_vI (ν := mX6_between) (pc' := 78) dX9_value_75 ml_RX9_105 mo_X6_between mv_X6_between clX6 (Nat.le_of_ble_eq_true rfl) rfl rfl (Nat.le_of_ble_eq_true rfl) (by first | assumption | decide | omega) (by assumption) (by decide) (c_between x1 (by omega) (by omega)) ?_
      refine k_imul (pc' := 79) (v := H.2.2.2 h i * H.2.2.2 h j * dT A.1 A.2 i j) dX9_value_78 rfl ?_
      refine k_iadd (pc' := 80) (v := s + H.2.2.2 h i * H.2.2.2 h j * dT A.1 A.2 i j) dX9_value_79 rfl ?_
      refine k_istore_n (pc' := 81) dX9_value_80 (Nat.le_of_ble_eq_true rfl) rfl ?_
      refine k_iinc (pc' := 84) (v := nI (j + 1)) dX9_value_81 rfl (nI_inc _) (Nat.le_of_ble_eq_true rfl) rfl ?_
      refine k_goto (tgt := 45) dX9_value_84 rfl ?_
      exact ih2
    · refine k_iload (pc' := 47) dX9_value_45 rfl ?_
      refine k_aload_n (pc' := 48) dX9_value_47 rfl ?_
      refine p_get (pc' := 51) clX9 (Nat.le_of_ble_eq_true rfl) fl_RX9_12 dX9_value_48 (by first | assumption | decide | omega) (by assumption) rfl ?_
      refine p_get (pc' := 54) clX6 (Nat.le_of_ble_eq_true rfl) fl_RX9_87 dX9_value_51 (by first | assumption | decide | omega) (by assumption) rfl ?_
      refine k_icmp_ge (tgt := 87) (pc' := 57) dX9_value_54 rfl (fun _ => ?_) (fun zz_ => absurd (nI_le (by omega) (by omega)) zz_)
      refine k_iinc (pc' := 90) (v := nI (i + 1)) dX9_value_87 rfl (nI_inc _) (Nat.le_of_ble_eq_true rfl) rfl ?_
      refine k_goto (tgt := 27) dX9_value_90 rfl ?_
      exact ih _
  · intro y
    refine k_iload (pc' := 29) dX9_value_27 rfl ?_
    refine k_aload_n (pc' := 30) dX9_value_29 rfl ?_
    refine p_get (pc' := 33) clX9 (Nat.le_of_ble_eq_true rfl) fl_RX9_12 dX9_value_30 (by first | assumption | decide | omega) (by assumption) rfl ?_
    refine p_get (pc' := 36) clX6 (Nat.le_of_ble_eq_true rfl) fl_RX9_87 dX9_value_33 (by first | assumption | decide | omega) (by assumption) rfl ?_
    refine k_icmp_ge (tgt := 93) (pc' := 39) dX9_value_36 rfl (fun _ => ?_) (fun zz_ => absurd (nI_le (by omega) (by omega)) zz_)
    refine k_iload_n (pc' := 94) dX9_value_93 rfl ?_
    refine k_i2l (pc' := 95) dX9_value_94 rfl ?_
    refine p_lreturn dX9_value_95 rfl ?_
    rw [← hQ]
    exact Or.inr ⟨h, rfl, hh, Or.inr ⟨h1, rfl, hX, hi.rfl'⟩⟩
end X7
