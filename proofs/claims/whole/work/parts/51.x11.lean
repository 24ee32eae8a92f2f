section X11
variable {G : GT} {σ σ' : Sto} {A : XA} {B : XB} {C : XC} {I : XI} {H : XH} {T : XT}
/-! texts -/
theorem pT_pT {S sp S2 sp2 : Nat} {b b2 : Nat → Int32} : putTp G (putTp G σ S sp b) S2 sp2 b2 = putTp G σ S2 sp2 b2 := by
  show va_up (va_up (putTp G σ S sp b) 44 _) 45 _ = _
  rw [pT_o, pT_b]
theorem hi_tape {S sp : Nat} {b : Nat → Int32} : hi σ (putTp G σ S sp b) := fun q hq => pTn (by omega) (by omega)
def xFd (v : Int32) : Nat → XT → XT
  | 0, s => s
  | k + 1, s => xFd v k (s.1 + 1, upd s.2 s.1 (v >>> (nI (8 * k) &&& 31) &&& nI 255))
theorem x_feed (h : isX G σ A B C I H T) (hT : T.1 ≤ 80) {x y : Int32} : ConP G mX9_feed 2 [.ref (adr G 0), .int x, .int y] σ (fun v σ' => (¬ (1 ≤ y.toInt ∧ y.toInt ≤ 4) ∧ xI G σ (-1) A B C I H T v σ') ∨ ∃ n, y = nI n ∧ 1 ≤ n ∧ n ≤ 4 ∧ ((80 < T.1 + n ∧ xI G σ (-3) A B C I H T v σ') ∨ (T.1 + n ≤ 80 ∧ xI G σ (nI (xFd x n T).1) A B C I H (xFd x n T) v σ'))) := by
  have hX := h
  obtain ⟨x0, x1, -, -, x8, -, -, -, -, ⟨sp, xt⟩, -⟩ := h
  have e44 : σ 44 = _ := (congrFun xt 44).symm.trans pT44
  refine ConP.of rfl (Nat.le_of_ble_eq_true rfl) ?_
  refine k_iload_n (pc' := 1) dX9_feed_0 rfl ?_
  refine k_iconst (pc' := 2) (v := nI 1) dX9_feed_1 rfl ?_
  refine k_icmp_lt (tgt := 10) (pc' := 5) dX9_feed_2 rfl (fun c_2 => ?_) (fun c_2 => ?_)
  · rw [iLt, nI_e (by decide)] at c_2
    refine k_iconst (pc' := 11) (v := -1) dX9_feed_10 rfl ?_
    refine p_ireturn dX9_feed_11 rfl ?_
    exact Or.inl ⟨fun q => by omega, rfl, hX, hi.rfl'⟩
  rw [iLt, nI_e (by decide)] at c_2
  refine k_iload_n (pc' := 6) dX9_feed_5 rfl ?_
  refine k_iconst (pc' := 7) (v := nI 4) dX9_feed_6 rfl ?_
  refine k_icmp_le (tgt := 12) (pc' := 10) dX9_feed_7 rfl (fun c_7 => ?_) (fun c_7 => ?_)
  rotate_left
  · rw [iLe, nI_e (by decide)] at c_7
    refine k_iconst (pc' := 11) (v := -1) dX9_feed_10 rfl ?_
    refine p_ireturn dX9_feed_11 rfl ?_
    exact Or.inl ⟨fun q => by omega, rfl, hX, hi.rfl'⟩
  rw [iLe, nI_e (by decide)] at c_7
  obtain ⟨n, hn, rfl⟩ := nI_in0 (n := 5) (x := y) (by omega) (by omega) (by decide)
  rw [nI_e (by omega)] at c_2 c_7
  by_cases hf : T.1 + n ≤ 80
  rotate_left
  · refine k_aload_n (pc' := 13) dX9_feed_12 rfl ?_
    refine p_get (pc' := 16) clX9 (Nat.le_of_ble_eq_true rfl) fl_RX9_54 dX9_feed_13 (by first | assumption | decide | omega) (by assumption) rfl ?_
    refine p_get (pc' := 19) clX7 (Nat.le_of_ble_eq_true rfl) fl_RX9_283 dX9_feed_16 (by first | assumption | decide | omega) e44 rfl ?_
    refine k_iload_n (pc' := 20) dX9_feed_19 rfl ?_
    refine k_iadd (pc' := 21) dX9_feed_20 (by first | exact nI_add _ _ | rfl) ?_
    refine k_bipush (pc' := 23) (v := nI 80) dX9_feed_21 rfl ?_
    refine k_icmp_le (tgt := 29) (pc' := 26) dX9_feed_23 rfl (fun zz_ => absurd zz_ (by rw [iLe, nI_e (by omega), nI_e (by omega)]; omega)) (fun _ => ?_)
    refine k_bipush (pc' := 28) (v := -3) dX9_feed_26 rfl ?_
    refine p_ireturn dX9_feed_28 rfl ?_
    exact Or.inr ⟨n, rfl, by omega, by omega, Or.inl ⟨by omega, rfl, hX, hi.rfl'⟩⟩
  refine k_aload_n (pc' := 13) dX9_feed_12 rfl ?_
  refine p_get (pc' := 16) clX9 (Nat.le_of_ble_eq_true rfl) fl_RX9_54 dX9_feed_13 (by first | assumption | decide | omega) (by assumption) rfl ?_
  refine p_get (pc' := 19) clX7 (Nat.le_of_ble_eq_true rfl) fl_RX9_283 dX9_feed_16 (by first | assumption | decide | omega) e44 rfl ?_
  refine k_iload_n (pc' := 20) dX9_feed_19 rfl ?_
  refine k_iadd (pc' := 21) dX9_feed_20 (by first | exact nI_add _ _ | rfl) ?_
  refine k_bipush (pc' := 23) (v := nI 80) dX9_feed_21 rfl ?_
  refine k_icmp_le (tgt := 29) (pc' := 26) dX9_feed_23 rfl (fun _ => ?_) (fun zz_ => absurd (nI_le (by omega) (by omega)) zz_)
  refine k_iload_n (pc' := 30) dX9_feed_29 rfl ?_
  refine k_iconst (pc' := 31) (v := nI 1) dX9_feed_30 rfl ?_
  refine k_isub (pc' := 32) (v := pv n) dX9_feed_31 (by rw [show n = (n - 1) + 1 by omega]; exact pk_sub (by omega)) ?_
  refine k_istore_n (pc' := 33) dX9_feed_32 (Nat.le_of_ble_eq_true rfl) rfl ?_
  obtain ⟨O, hO⟩ : ∃ O, O = xFd x n T := ⟨_, rfl⟩
  have main : ∀ k (t : XT), xFd x k t = O → t.1 + k ≤ 80 → OkP G mX9_feed 2 (fun v σ' => (¬ (1 ≤ (nI n).toInt ∧ (nI n).toInt ≤ 4) ∧ xI G σ (-1) A B C I H T v σ') ∨ ∃ n', nI n = nI n' ∧ 1 ≤ n' ∧ n' ≤ 4 ∧ ((80 < T.1 + n' ∧ xI G σ (-3) A B C I H T v σ') ∨ (T.1 + n' ≤ 80 ∧ xI G σ (nI (xFd x n' T).1) A B C I H (xFd x n' T) v σ'))) 33 [some (.ref (adr G 0)), some (.int x), some (.int (nI n)), some (.int (pv k))] [] (putTp G σ t.1 sp t.2) := by
    intro k
    induction k with
    | zero =>
      intro t ht hk
      have ht' : t = O := ht
      have z0 : putTp G σ t.1 sp t.2 0 = _ := (pTn (by decide) (by decide)).trans x0
      refine k_iload_n (pc' := 34) dX9_feed_33 rfl ?_
      refine k_if_lt (tgt := 60) (pc' := 37) dX9_feed_34 rfl (fun _ => ?_) (fun zz_ => absurd (by decide) zz_)
      refine k_aload_n (pc' := 61) dX9_feed_60 rfl ?_
      refine p_get (pc' := 64) clX9 (Nat.le_of_ble_eq_true rfl) fl_RX9_54 dX9_feed_61 (by first | assumption | decide | omega) (by assumption) rfl ?_
      refine p_get (pc' := 67) clX7 (Nat.le_of_ble_eq_true rfl) fl_RX9_283 dX9_feed_64 (by first | assumption | decide | omega) pT44 rfl ?_
      refine p_ireturn dX9_feed_67 rfl ?_
      refine Or.inr ⟨n, rfl, by omega, by omega, Or.inr ⟨hf, ?_, ?_, hi_tape⟩⟩
      · rw [← hO, ht']
      · rw [← hO, ← ht']
        exact hX.tape
    | succ k ih =>
      intro t ht hk
      have z0 : putTp G σ t.1 sp t.2 0 = _ := (pTn (by decide) (by decide)).trans x0
      have hlt : t.1 < 80 := by omega
      refine k_iload_n (pc' := 34) dX9_feed_33 rfl ?_
      refine k_if_lt (tgt := 60) (pc' := 37) dX9_feed_34 rfl (fun zz_ => absurd zz_ (nI_pos (by omega))) (fun _ => ?_)
      refine k_aload_n (pc' := 38) dX9_feed_37 rfl ?_
      refine p_get (pc' := 41) clX9 (Nat.le_of_ble_eq_true rfl) fl_RX9_54 dX9_feed_38 (by first | assumption | decide | omega) (by assumption) rfl ?_
      refine k_iload_n (pc' := 42) dX9_feed_41 rfl ?_
      refine k_bipush (pc' := 44) (v := nI 8) dX9_feed_42 rfl ?_
      refine k_iload_n (pc' := 45) dX9_feed_44 rfl ?_
      refine k_imul (pc' := 46) dX9_feed_45 (by first | exact pk_mul _ _ | rfl) ?_
      refine k_ishr (pc' := 47) (v := x >>> (nI (8 * k) &&& 31)) dX9_feed_46 rfl ?_
      refine k_sipush (pc' := 50) (v := nI 255) dX9_feed_47 rfl ?_
      refine k_iand (pc' := 51) (v := x >>> (nI (8 * k) &&& 31) &&& nI 255) dX9_feed_50 rfl ?_
      refine p_vV (ν := mX7_append) (pc' := 54) dX9_feed_51 ml_RX9_284 mo_X7_append mv_X7_append clX7 (Nat.le_of_ble_eq_true rfl) rfl rfl (Nat.le_of_ble_eq_true rfl) (by first | assumption | decide | omega) pT44 (by decide) (c_tpAppend (by omega)) ?_
      rw [if_pos hlt]
      refine k_iinc (pc' := 57) (v := pv k) dX9_feed_54 rfl (pv_dec k) (Nat.le_of_ble_eq_true rfl) rfl ?_
      refine k_goto (tgt := 33) dX9_feed_57 rfl ?_
      exact ih (t.1 + 1, upd t.2 t.1 (x >>> (nI (8 * k) &&& 31) &&& nI 255)) ht (by omega)
  have fin := main n T hO.symm hf
  rw [xt] at fin
  exact fin
theorem x_wipe (h : isX G σ A B C I H T) : ConP G mX9_wipe 1 [.ref (adr G 0)] σ (xI G σ (nI T.1) A B C I H (0, T.2)) := by
  have hX := h
  obtain ⟨x0, x1, -, -, x8, -, -, -, -, ⟨sp, xt⟩, -⟩ := h
  have e44 : σ 44 = _ := (congrFun xt 44).symm.trans pT44
  have o44 : va_up σ 44 (ob 7 [.ref (adr G 45), .int (nI 0), .int (nI sp)]) = putTp G σ 0 sp T.2 := by
    have := pT_o (G := G) (σ := σ) (S := T.1) (sp := sp) (by' := T.2) (S2 := 0) (sp2 := sp)
    rw [xt] at this
    exact this
  refine ConP.of rfl (Nat.le_of_ble_eq_true rfl) ?_
  refine k_aload_n (pc' := 1) dX9_wipe_0 rfl ?_
  refine p_get (pc' := 4) clX9 (Nat.le_of_ble_eq_true rfl) fl_RX9_54 dX9_wipe_1 (by first | assumption | decide | omega) (by assumption) rfl ?_
  refine p_get (pc' := 7) clX7 (Nat.le_of_ble_eq_true rfl) fl_RX9_283 dX9_wipe_4 (by first | assumption | decide | omega) e44 rfl ?_
  refine k_istore_n (pc' := 8) dX9_wipe_7 (Nat.le_of_ble_eq_true rfl) rfl ?_
  refine k_aload_n (pc' := 9) dX9_wipe_8 rfl ?_
  refine p_get (pc' := 12) clX9 (Nat.le_of_ble_eq_true rfl) fl_RX9_54 dX9_wipe_9 (by first | assumption | decide | omega) (by assumption) rfl ?_
  refine k_iconst (pc' := 13) (v := nI 0) dX9_wipe_12 rfl ?_
  refine p_putI (pc' := 16) (σ1 := putTp G σ 0 sp T.2) clX7 (Nat.le_of_ble_eq_true rfl) fl_RX9_283 dX9_wipe_13 rfl (Or.inl rfl) (by first | assumption | decide | omega) e44 (Nat.le_of_ble_eq_true rfl) (by exact o44) ?_
  refine k_iload_n (pc' := 17) dX9_wipe_16 rfl ?_
  refine p_ireturn dX9_wipe_17 rfl ?_
  exact ⟨rfl, hX.tape, hi_tape⟩
theorem pP_pP {w w2 : SP} : putSp G (putSp G σ w) w2 = putSp G σ w2 := by
  show va_up (va_up (putSp G σ w) 46 _) 47 _ = _
  rw [pP_o, pP_b]
theorem isX.spell {w : SP} (h : isX G σ A B C I H T) : isX G (putSp G σ w) A B C I H T := by
  have n1 : ∀ q, q ≠ 46 → q ≠ 47 → putSp G σ w q = σ q := fun q a b => pPn a b
  refine h.scr (fun q a _ _ => n1 q (by omega) (by omega)) ?_ ?_
  · obtain ⟨M0, g0, h3⟩ := h.2.2.1
    exact ⟨M0, g0, h3.loc (n1 _ (by decide) (by decide)) (n1 _ (by decide) (by decide))⟩
  · obtain ⟨-, ⟨st0, N0, m0, w0, hw0, h54, ⟨M0, f0, hT⟩, z1, z2⟩, ⟨P, L, w3, hw3⟩, ⟨C', w4, hw4, h66⟩⟩ := h.2.2.2.2.2.2.2.2.2.2
    exact ⟨⟨w, pP_pP⟩, ⟨st0, N0, m0, w0, putW.loc hw0 (fun q a b => n1 q (by omega) (by omega)), (n1 _ (by decide) (by decide)).trans h54, ⟨M0, f0, hT.loc (n1 _ (by decide) (by decide)) (n1 _ (by decide) (by decide))⟩, z1, z2⟩, ⟨P, L, w3, putS.loc hw3 (fun q a b => n1 q (by omega) (by omega))⟩, ⟨C', w4, putR.loc hw4 (fun q a b => n1 q (by omega) (by omega)), (n1 _ (by decide) (by decide)).trans h66⟩⟩
theorem wri_le {N : Nat} {far sb : Nat → Int32} : (wri N far sb).2 ≤ 61 := by
  unfold wri
  exact upn_inv (fun _ (a : SP) => a.2 ≤ 61) _ _ _ (fun i a _ _ h => upn_inv (fun _ (a : SP) => a.2 ≤ 61) _ _ _ (fun _ _ _ _ h => wFg_le (apd_le h)) h) (apd_le (Nat.zero_le _))
theorem x_spell (h : isX G σ A B C I H T) {x : Int32} : ConP G mX9_spell 4 [.ref (adr G 0), .int x] σ (fun v σ' => (x.toInt < -1 ∧ xI G σ (-1) A B C I H T v σ') ∨ (-1 ≤ x.toInt ∧ ∃ sb, xI G σ (if x.toInt < 0 then nI (wri A.1 A.2 sb).2 else if x.toInt < (wri A.1 A.2 sb).2 then (wri A.1 A.2 sb).1 x.toInt.toNat else -2) A B C I H T v σ')) := by
  have hX := h
  obtain ⟨x0, x1, -, -, x8, -, -, -, -, -, ⟨w0, hw0⟩, -⟩ := h
  have e1 := x1.2.2.1
  have e46 : σ 46 = _ := (congrFun hw0 46).symm.trans pP46
  have con := c_write (G := G) (σ := σ) (w := w0) x1 (by decide)
  rw [hw0] at con
  refine ConP.of rfl (Nat.le_of_ble_eq_true rfl) ?_
  refine k_iload_n (pc' := 1) dX9_spell_0 rfl ?_
  refine k_iconst (pc' := 2) (v := -1) dX9_spell_1 rfl ?_
  refine k_icmp_ge (tgt := 7) (pc' := 5) dX9_spell_2 rfl (fun c_2 => ?_) (fun c_2 => ?_)
  rotate_left
  · rw [iLe, im1] at c_2
    refine k_iconst (pc' := 6) (v := -1) dX9_spell_5 rfl ?_
    refine p_ireturn dX9_spell_6 rfl ?_
    exact Or.inl ⟨by omega, rfl, hX, hi.rfl'⟩
  rw [iLe, im1] at c_2
  refine k_aload_n (pc' := 8) dX9_spell_7 rfl ?_
  refine p_get (pc' := 11) clX9 (Nat.le_of_ble_eq_true rfl) fl_RX9_61 dX9_spell_8 (by first | assumption | decide | omega) (by assumption) rfl ?_
  refine k_aload_n (pc' := 12) dX9_spell_11 rfl ?_
  refine p_get (pc' := 15) clX9 (Nat.le_of_ble_eq_true rfl) fl_RX9_12 dX9_spell_12 (by first | assumption | decide | omega) (by assumption) rfl ?_
  refine p_vV (ν := mX4_write) (pc' := 18) dX9_spell_15 ml_RX9_290 mo_X4_write mv_X4_write clX4 (Nat.le_of_ble_eq_true rfl) rfl rfl (Nat.le_of_ble_eq_true rfl) (by first | assumption | decide | omega) e46 (by decide) (con) ?_
  have hle := wri_le (N := A.1) (far := A.2) (sb := w0.1)
  obtain ⟨R, hR⟩ : ∃ R, R = wri A.1 A.2 w0.1 := ⟨_, rfl⟩
  rw [← hR] at hle ⊢
  have zX : isX G (putSp G σ R) A B C I H T := hX.spell
  have z0 := zX.1
  have zh : hi σ (putSp G σ R) := fun q hq => pPn (by omega) (by omega)
  have done : ∀ v, v = (if x.toInt < 0 then nI R.2 else if x.toInt < R.2 then R.1 x.toInt.toNat else -2) → (fun v σ' => (x.toInt < -1 ∧ xI G σ (-1) A B C I H T v σ') ∨ (-1 ≤ x.toInt ∧ ∃ sb, xI G σ (if x.toInt < 0 then nI (wri A.1 A.2 sb).2 else if x.toInt < (wri A.1 A.2 sb).2 then (wri A.1 A.2 sb).1 x.toInt.toNat else -2) A B C I H T v σ')) (some (.int v)) (putSp G σ R) := by
    intro v hv
    exact Or.inr ⟨by omega, w0.1, by rw [← hR, hv], zX, zh⟩
  by_cases h1 : x = -1
  · refine k_iload_n (pc' := 19) dX9_spell_18 rfl ?_
    refine k_iconst (pc' := 20) (v := -1) dX9_spell_19 rfl ?_
    refine k_icmp_ne (tgt := 31) (pc' := 23) dX9_spell_20 rfl (fun zz_ => absurd h1 zz_) (fun _ => ?_)
    refine k_aload_n (pc' := 24) dX9_spell_23 rfl ?_
    refine p_get (pc' := 27) clX9 (Nat.le_of_ble_eq_true rfl) fl_RX9_61 dX9_spell_24 (by first | assumption | decide | omega) (by assumption) rfl ?_
    refine p_get (pc' := 30) clX4 (Nat.le_of_ble_eq_true rfl) fl_RX9_293 dX9_spell_27 (by first | assumption | decide | omega) pP46 rfl ?_
    refine p_ireturn dX9_spell_30 rfl ?_
    exact done _ (by rw [if_pos (by rw [h1]; decide)])
  have h2 : 0 ≤ x.toInt := by
    rw [iEq, im1] at h1
    omega
  by_cases h3 : x.toInt < R.2
  · obtain ⟨i, hi', rfl⟩ := nI_in0 (n := R.2) h2 h3 (by omega)
    refine k_iload_n (pc' := 19) dX9_spell_18 rfl ?_
    refine k_iconst (pc' := 20) (v := -1) dX9_spell_19 rfl ?_
    refine k_icmp_ne (tgt := 31) (pc' := 23) dX9_spell_20 rfl (fun _ => ?_) (fun zz_ => absurd zz_ h1)
    refine k_iload_n (pc' := 32) dX9_spell_31 rfl ?_
    refine k_aload_n (pc' := 33) dX9_spell_32 rfl ?_
    refine p_get (pc' := 36) clX9 (Nat.le_of_ble_eq_true rfl) fl_RX9_61 dX9_spell_33 (by first | assumption | decide | omega) (by assumption) rfl ?_
    refine p_get (pc' := 39) clX4 (Nat.le_of_ble_eq_true rfl) fl_RX9_293 dX9_spell_36 (by first | assumption | decide | omega) pP46 rfl ?_
    refine k_icmp_ge (tgt := 54) (pc' := 42) dX9_spell_39 rfl (fun zz_ => absurd zz_ (by rw [iLe, nI_e (by omega), nI_e (by omega)]; omega)) (fun _ => ?_)
    refine k_aload_n (pc' := 43) dX9_spell_42 rfl ?_
    refine p_get (pc' := 46) clX9 (Nat.le_of_ble_eq_true rfl) fl_RX9_61 dX9_spell_43 (by first | assumption | decide | omega) (by assumption) rfl ?_
    refine p_get (pc' := 49) clX4 (Nat.le_of_ble_eq_true rfl) fl_RX9_294 dX9_spell_46 (by first | assumption | decide | omega) pP46 rfl ?_
    refine k_iload_n (pc' := 50) dX9_spell_49 rfl ?_
    refine p_ialdN (pc' := 51) dX9_spell_50 (by first | assumption | decide | omega) pP47 (by first | decide | omega) (by omega) ?_
    refine k_goto (tgt := 56) dX9_spell_51 rfl ?_
    refine p_ireturn dX9_spell_56 rfl ?_
    exact done _ (by rw [if_neg (by omega), if_pos h3, show (nI i).toInt.toNat = i by rw [nI_e (by omega)]; rfl])
  · refine k_iload_n (pc' := 19) dX9_spell_18 rfl ?_
    refine k_iconst (pc' := 20) (v := -1) dX9_spell_19 rfl ?_
    refine k_icmp_ne (tgt := 31) (pc' := 23) dX9_spell_20 rfl (fun _ => ?_) (fun zz_ => absurd zz_ h1)
    refine k_iload_n (pc' := 32) dX9_spell_31 rfl ?_
    refine k_aload_n (pc' := 33) dX9_spell_32 rfl ?_
    refine p_get (pc' := 36) clX9 (Nat.le_of_ble_eq_true rfl) fl_RX9_61 dX9_spell_33 (by first | assumption | decide | omega) (by assumption) rfl ?_
    refine p_get (pc' := 39) clX4 (Nat.le_of_ble_eq_true rfl) fl_RX9_293 dX9_spell_36 (by first | assumption | decide | omega) pP46 rfl ?_
    refine k_icmp_ge (tgt := 54) (pc' := 42) dX9_spell_39 rfl (fun _ => ?_) (fun zz_ => absurd (by rw [iLe, nI_e (by omega)]; omega) zz_)
    refine k_bipush (pc' := 56) (v := -2) dX9_spell_54 rfl ?_
    refine p_ireturn dX9_spell_56 rfl ?_
    exact done _ (by rw [if_neg (by omega), if_neg h3])
end X11
