section X6
variable {G : GT} {σ σ' : Sto} {A : XA} {B : XB} {C : XC} {I : XI} {H : XH} {T : XT}
theorem x_walls (h : isX G σ A B C I H T) {x y : Int32} : ConP G mX9_walls 6 [.ref (adr G 0), .int x, .int y] σ (fun v σ' => (¬ ((1 ≤ x.toInt ∧ x.toInt ≤ 3) ∧ (0 ≤ y.toInt ∧ y.toInt ≤ 4)) ∧ xI G σ (-1) A B C I H T v σ') ∨ ∃ m, x = nI m ∧ 1 ≤ m ∧ m ≤ 3 ∧ (0 ≤ y.toInt ∧ y.toInt ≤ 4) ∧ ∃ w0 fa, wK w0 ∧ xI G σ (pick5 y (xWl A.1 m (va_cpy A.2 fa 0 0 15) 16807 (xS A.1 m (va_cpy A.2 fa 0 0 15) w0) (nI 0, nI 0, nI 0, -2, nI 0, nI 0)).2.2) A B C I H T v σ') := by
  have hX := h
  obtain ⟨x0, x1, -⟩ := h
  have e1 := x1.2.2.1
  have hN2 := x1.2.2.2.2.1
  have hN6 := x1.2.2.2.2.2
  refine ConP.of rfl (Nat.le_of_ble_eq_true rfl) ?_
  refine k_iload_n (pc' := 1) dX9_walls_0 rfl ?_
  refine p_sI (ν := mX9_isWidth) (pc' := 4) dX9_walls_1 ml_RX9_184 mo_X9_isWidth ms_X9_isWidth (Nat.le_of_ble_eq_true rfl) rfl rfl (Nat.le_of_ble_eq_true rfl) (by decide) (x_isWidth) ?_
  refine k_if_eq (tgt := 16) (pc' := 7) dX9_walls_4 rfl (fun c_4 => ?_) (fun c_4 => ?_)
  · rw [bI_eq] at c_4
    refine k_iconst (pc' := 17) (v := -1) dX9_walls_16 rfl ?_
    refine p_ireturn dX9_walls_17 rfl ?_
    exact Or.inl ⟨fun q => c_4 q.1, rfl, hX, hi.rfl'⟩
  rw [bI_ne] at c_4
  refine k_iload_n (pc' := 8) dX9_walls_7 rfl ?_
  refine k_if_lt (tgt := 16) (pc' := 11) dX9_walls_8 rfl (fun c_8 => ?_) (fun c_8 => ?_)
  · rw [iLt, i0] at c_8
    refine k_iconst (pc' := 17) (v := -1) dX9_walls_16 rfl ?_
    refine p_ireturn dX9_walls_17 rfl ?_
    exact Or.inl ⟨fun q => by omega, rfl, hX, hi.rfl'⟩
  rw [iLt, i0] at c_8
  refine k_iload_n (pc' := 12) dX9_walls_11 rfl ?_
  refine k_iconst (pc' := 13) (v := nI 4) dX9_walls_12 rfl ?_
  refine k_icmp_le (tgt := 18) (pc' := 16) dX9_walls_13 rfl (fun c_13 => ?_) (fun c_13 => ?_)
  rotate_left
  · rw [iLe, nI_e (by decide)] at c_13
    refine k_iconst (pc' := 17) (v := -1) dX9_walls_16 rfl ?_
    refine p_ireturn dX9_walls_17 rfl ?_
    exact Or.inl ⟨fun q => by omega, rfl, hX, hi.rfl'⟩
  rw [iLe, nI_e (by decide)] at c_13
  obtain ⟨m, hm, rfl⟩ := nI_in0 (n := 4) (x := x) (by omega) (by omega) (by decide)
  have hm1 : 1 ≤ m := by
    have := c_4.1
    rw [nI_e (by omega)] at this
    omega
  obtain ⟨w0, fa, hw0, ⟨e, e48⟩, hT, h54, con⟩ := x_wkStart (m := m) hX
  refine k_iconst (pc' := 19) (v := nI 0) dX9_walls_18 rfl ?_
  refine k_istore_n (pc' := 20) dX9_walls_19 (Nat.le_of_ble_eq_true rfl) rfl ?_
  refine k_iconst (pc' := 21) (v := nI 0) dX9_walls_20 rfl ?_
  refine k_istore (pc' := 23) dX9_walls_21 (Nat.le_of_ble_eq_true rfl) rfl ?_
  refine k_iconst (pc' := 24) (v := nI 0) dX9_walls_23 rfl ?_
  refine k_istore (pc' := 26) dX9_walls_24 (Nat.le_of_ble_eq_true rfl) rfl ?_
  refine k_bipush (pc' := 28) (v := -2) dX9_walls_26 rfl ?_
  refine k_istore (pc' := 30) dX9_walls_28 (Nat.le_of_ble_eq_true rfl) rfl ?_
  refine k_iconst (pc' := 31) (v := nI 0) dX9_walls_30 rfl ?_
  refine k_istore (pc' := 33) dX9_walls_31 (Nat.le_of_ble_eq_true rfl) rfl ?_
  refine k_iconst (pc' := 34) (v := nI 0) dX9_walls_33 rfl ?_
  refine k_istore (pc' := 36) dX9_walls_34 (Nat.le_of_ble_eq_true rfl) rfl ?_
  refine k_aload_n (pc' := 37) dX9_walls_36 rfl ?_
  refine p_get (pc' := 40) clX9 (Nat.le_of_ble_eq_true rfl) fl_RX9_68 dX9_walls_37 (by first | assumption | decide | omega) (by assumption) rfl ?_
  refine k_aload_n (pc' := 41) dX9_walls_40 rfl ?_
  refine p_get (pc' := 44) clX9 (Nat.le_of_ble_eq_true rfl) fl_RX9_12 dX9_walls_41 (by first | assumption | decide | omega) (by assumption) rfl ?_
  refine k_iload_n (pc' := 45) dX9_walls_44 rfl ?_
  refine p_vV (ν := mX8_start) (pc' := 48) dX9_walls_45 ml_RX9_187 mo_X8_start mv_X8_start clX8 (Nat.le_of_ble_eq_true rfl) rfl rfl (Nat.le_of_ble_eq_true rfl) (by first | assumption | decide | omega) e48 (by decide) (con) ?_
  refine k_iconst (pc' := 49) (v := nI 0) dX9_walls_48 rfl ?_
  refine k_istore (pc' := 51) dX9_walls_49 (Nat.le_of_ble_eq_true rfl) rfl ?_
  generalize hft : va_cpy A.2 fa 0 0 15 = ft at *
  generalize hσ : putT G σ 49 A.1 ft = σ1 at *
  have y0 : ∀ {st w}, putW G σ1 st A.1 m w 0 = ob 9 (xFs G I.1) := fun {st w} => by
    rw [pWn (by decide), ← hσ, putT_n (by decide) (by decide)]
    exact x0
  have yX : ∀ {st w}, wK w → isX G (putW G σ1 st A.1 m w) A B C I H T := fun {st w} hw => by
    rw [← hσ]
    exact hX.walk hN2 hN6 hw
  have yh : ∀ {st w}, hi σ (putW G σ1 st A.1 m w) := fun {st w} => by
    rw [← hσ]
    exact hi_walk
  have fin : ∀ st w (s : I6) y9 y10, wK w → s = (xWl A.1 m ft 16807 (xS A.1 m ft w0) (nI 0, nI 0, nI 0, -2, nI 0, nI 0)).2.2 → OkP G mX9_walls 6 (fun v σ' => (¬ ((1 ≤ (nI m).toInt ∧ (nI m).toInt ≤ 3) ∧ (0 ≤ y.toInt ∧ y.toInt ≤ 4)) ∧ xI G σ (-1) A B C I H T v σ') ∨ ∃ m', nI m = nI m' ∧ 1 ≤ m' ∧ m' ≤ 3 ∧ (0 ≤ y.toInt ∧ y.toInt ≤ 4) ∧ ∃ w0 fa, wK w0 ∧ xI G σ (pick5 y (xWl A.1 m' (va_cpy A.2 fa 0 0 15) 16807 (xS A.1 m' (va_cpy A.2 fa 0 0 15) w0) (nI 0, nI 0, nI 0, -2, nI 0, nI 0)).2.2) A B C I H T v σ') 144 [some (.ref (adr G 0)), some (.int (nI m)), some (.int y), some (.int s.1), some (.int s.2.1), some (.int s.2.2.1), some (.int s.2.2.2.1), some (.int s.2.2.2.2.1), some (.int s.2.2.2.2.2), y9, y10] [] (putW G σ1 st A.1 m w) := by
    intro st w s y9 y10 hw hs
    have done : ∀ v, v = pick5 y s → (fun v σ' => (¬ ((1 ≤ (nI m).toInt ∧ (nI m).toInt ≤ 3) ∧ (0 ≤ y.toInt ∧ y.toInt ≤ 4)) ∧ xI G σ (-1) A B C I H T v σ') ∨ ∃ m', nI m = nI m' ∧ 1 ≤ m' ∧ m' ≤ 3 ∧ (0 ≤ y.toInt ∧ y.toInt ≤ 4) ∧ ∃ w0 fa, wK w0 ∧ xI G σ (pick5 y (xWl A.1 m' (va_cpy A.2 fa 0 0 15) 16807 (xS A.1 m' (va_cpy A.2 fa 0 0 15) w0) (nI 0, nI 0, nI 0, -2, nI 0, nI 0)).2.2) A B C I H T v σ') (some (.int v)) (putW G σ1 st A.1 m w) := by
      intro v hv
      refine Or.inr ⟨m, rfl, hm1, by omega, ⟨by omega, by omega⟩, w0, fa, hw0, ?_, yX hw, yh⟩
      rw [hft, ← hs, hv]
    obtain ⟨k, hk, rfl⟩ := nI_in0 (n := 5) (x := y) (by omega) (by omega) (by decide)
    have hk' : k = 0 ∨ k = 1 ∨ k = 2 ∨ k = 3 ∨ k = 4 := by omega
    rcases hk' with rfl | rfl | rfl | rfl | rfl
    · refine k_iload_n (pc' := 145) dX9_walls_144 rfl ?_
      refine k_tswIn (tgt := 176) dX9_walls_145 (by decide) (by decide) rfl rfl ?_
      refine k_iload_n (pc' := 177) dX9_walls_176 rfl ?_
      refine p_ireturn dX9_walls_177 rfl ?_
      exact done _ rfl
    · refine k_iload_n (pc' := 145) dX9_walls_144 rfl ?_
      refine k_tswIn (tgt := 178) dX9_walls_145 (by decide) (by decide) rfl rfl ?_
      refine k_iload (pc' := 180) dX9_walls_178 rfl ?_
      refine p_ireturn dX9_walls_180 rfl ?_
      exact done _ rfl
    · refine k_iload_n (pc' := 145) dX9_walls_144 rfl ?_
      refine k_tswIn (tgt := 181) dX9_walls_145 (by decide) (by decide) rfl rfl ?_
      refine k_iload (pc' := 183) dX9_walls_181 rfl ?_
      refine p_ireturn dX9_walls_183 rfl ?_
      exact done _ rfl
    · refine k_iload_n (pc' := 145) dX9_walls_144 rfl ?_
      refine k_tswIn (tgt := 184) dX9_walls_145 (by decide) (by decide) rfl rfl ?_
      refine k_iload (pc' := 186) dX9_walls_184 rfl ?_
      refine p_ireturn dX9_walls_186 rfl ?_
      exact done _ rfl
    · refine k_iload_n (pc' := 145) dX9_walls_144 rfl ?_
      refine k_tswOut (tgt := 187) dX9_walls_145 (by decide) rfl ?_
      refine k_iload (pc' := 189) dX9_walls_187 rfl ?_
      refine p_ireturn dX9_walls_189 rfl ?_
      exact done _ rfl
  have main : ∀ n k w (s : I6), k + n = 16807 → wK w → (xWl A.1 m ft n w s).2.2 = (xWl A.1 m ft 16807 (xS A.1 m ft w0) (nI 0, nI 0, nI 0, -2, nI 0, nI 0)).2.2 → ∀ y10, OkP G mX9_walls 6 (fun v σ' => (¬ ((1 ≤ (nI m).toInt ∧ (nI m).toInt ≤ 3) ∧ (0 ≤ y.toInt ∧ y.toInt ≤ 4)) ∧ xI G σ (-1) A B C I H T v σ') ∨ ∃ m', nI m = nI m' ∧ 1 ≤ m' ∧ m' ≤ 3 ∧ (0 ≤ y.toInt ∧ y.toInt ≤ 4) ∧ ∃ w0 fa, wK w0 ∧ xI G σ (pick5 y (xWl A.1 m' (va_cpy A.2 fa 0 0 15) 16807 (xS A.1 m' (va_cpy A.2 fa 0 0 15) w0) (nI 0, nI 0, nI 0, -2, nI 0, nI 0)).2.2) A B C I H T v σ') 51 [some (.ref (adr G 0)), some (.int (nI m)), some (.int y), some (.int s.1), some (.int s.2.1), some (.int s.2.2.1), some (.int s.2.2.2.1), some (.int s.2.2.2.2.1), some (.int s.2.2.2.2.2), some (.int (nI k)), y10] [] (putW G σ1 1 A.1 m w) := by
    intro n
    induction n with
    | zero =>
      intro k w s hk hw hr y10
      refine k_iload (pc' := 53) dX9_walls_51 rfl ?_
      refine k_sipush (pc' := 56) (v := nI 16807) dX9_walls_53 rfl ?_
      refine k_icmp_ge (tgt := 144) (pc' := 59) dX9_walls_56 rfl (fun _ => ?_) (fun zz_ => absurd (nI_le (by omega) (by omega)) zz_)
      exact fin _ _ s _ _ hw hr
    | succ n ih =>
      intro k w s hk hw hr y10
      have f0 := y0 (st := 1) (w := w)
      refine k_iload (pc' := 53) dX9_walls_51 rfl ?_
      refine k_sipush (pc' := 56) (v := nI 16807) dX9_walls_53 rfl ?_
      refine k_icmp_ge (tgt := 144) (pc' := 59) dX9_walls_56 rfl (fun zz_ => absurd zz_ (nI_ge (by omega) (by omega))) (fun _ => ?_)
      refine k_aload_n (pc' := 60) dX9_walls_59 rfl ?_
      refine p_get (pc' := 63) clX9 (Nat.le_of_ble_eq_true rfl) fl_RX9_68 dX9_walls_60 (by first | assumption | decide | omega) (by assumption) rfl ?_
      refine p_get (pc' := 66) clX8 (Nat.le_of_ble_eq_true rfl) fl_RX9_191 dX9_walls_63 (by first | assumption | decide | omega) pW48 rfl ?_
      refine k_if_eq (tgt := 144) (pc' := 69) dX9_walls_66 rfl (fun zz_ => absurd zz_ (by decide)) (fun _ => ?_)
      refine k_aload_n (pc' := 70) dX9_walls_69 rfl ?_
      refine p_get (pc' := 73) clX9 (Nat.le_of_ble_eq_true rfl) fl_RX9_68 dX9_walls_70 (by first | assumption | decide | omega) (by assumption) rfl ?_
      refine p_vI (ν := mX8_wallValue) (pc' := 76) dX9_walls_73 ml_RX9_194 mo_X8_wallValue mv_X8_wallValue clX8 (Nat.le_of_ble_eq_true rfl) rfl rfl (Nat.le_of_ble_eq_true rfl) (by first | assumption | decide | omega) pW48 (by decide) (c_wallValue hN6) ?_
      refine k_istore (pc' := 78) dX9_walls_76 (Nat.le_of_ble_eq_true rfl) rfl ?_
      generalize hv : w.2.2.1 A.1 = v
      -- the end of the round
      have tail : ∀ s' : I6, s' = wlS v s → OkP G mX9_walls 6 (fun v σ' => (¬ ((1 ≤ (nI m).toInt ∧ (nI m).toInt ≤ 3) ∧ (0 ≤ y.toInt ∧ y.toInt ≤ 4)) ∧ xI G σ (-1) A B C I H T v σ') ∨ ∃ m', nI m = nI m' ∧ 1 ≤ m' ∧ m' ≤ 3 ∧ (0 ≤ y.toInt ∧ y.toInt ≤ 4) ∧ ∃ w0 fa, wK w0 ∧ xI G σ (pick5 y (xWl A.1 m' (va_cpy A.2 fa 0 0 15) 16807 (xS A.1 m' (va_cpy A.2 fa 0 0 15) w0) (nI 0, nI 0, nI 0, -2, nI 0, nI 0)).2.2) A B C I H T v σ') 131 [some (.ref (adr G 0)), some (.int (nI m)), some (.int y), some (.int s'.1), some (.int s'.2.1), some (.int s'.2.2.1), some (.int s'.2.2.2.1), some (.int s'.2.2.2.2.1), some (.int s'.2.2.2.2.2), some (.int (nI k)), some (.int v)] [] (putW G σ1 1 A.1 m w) := by
        intro s' hs'
        refine k_aload_n (pc' := 132) dX9_walls_131 rfl ?_
        refine p_get (pc' := 135) clX9 (Nat.le_of_ble_eq_true rfl) fl_RX9_68 dX9_walls_132 (by first | assumption | decide | omega) (by assumption) rfl ?_
        refine p_vV (ν := mX8_goOn) (pc' := 138) dX9_walls_135 ml_RX9_197 mo_X8_goOn mv_X8_goOn clX8 (Nat.le_of_ble_eq_true rfl) rfl rfl (Nat.le_of_ble_eq_true rfl) (by first | assumption | decide | omega) pW48 (by decide) (c_goOn hT h54) ?_
        unfold xWl at hr
        rw [hv, ← hs'] at hr
        cases ho : goO A.1 m ft w with
        | none =>
          rw [ho] at hr
          dsimp only [goS] at hr ⊢
          have f0 := y0 (st := 0) (w := w)
          refine k_iinc (pc' := 141) (v := nI (k + 1)) dX9_walls_138 rfl (nI_inc _) (Nat.le_of_ble_eq_true rfl) rfl ?_
          refine k_goto (tgt := 51) dX9_walls_141 rfl ?_
          by_cases hk2 : 16807 ≤ k + 1
          · refine k_iload (pc' := 53) dX9_walls_51 rfl ?_
            refine k_sipush (pc' := 56) (v := nI 16807) dX9_walls_53 rfl ?_
            refine k_icmp_ge (tgt := 144) (pc' := 59) dX9_walls_56 rfl (fun _ => ?_) (fun zz_ => absurd (nI_le (by omega) (by omega)) zz_)
            exact fin _ _ s' _ _ hw hr
          · refine k_iload (pc' := 53) dX9_walls_51 rfl ?_
            refine k_sipush (pc' := 56) (v := nI 16807) dX9_walls_53 rfl ?_
            refine k_icmp_ge (tgt := 144) (pc' := 59) dX9_walls_56 rfl (fun zz_ => absurd zz_ (nI_ge (by omega) (by omega))) (fun _ => ?_)
            refine k_aload_n (pc' := 60) dX9_walls_59 rfl ?_
            refine p_get (pc' := 63) clX9 (Nat.le_of_ble_eq_true rfl) fl_RX9_68 dX9_walls_60 (by first | assumption | decide | omega) (by assumption) rfl ?_
            refine p_get (pc' := 66) clX8 (Nat.le_of_ble_eq_true rfl) fl_RX9_191 dX9_walls_63 (by first | assumption | decide | omega) pW48 rfl ?_
            refine k_if_eq (tgt := 144) (pc' := 69) dX9_walls_66 rfl (fun _ => ?_) (fun zz_ => absurd rfl zz_)
            exact fin _ _ s' _ _ hw hr
        | some w2 =>
          rw [ho] at hr
          dsimp only [goS] at hr ⊢
          refine k_iinc (pc' := 141) (v := nI (k + 1)) dX9_walls_138 rfl (nI_inc _) (Nat.le_of_ble_eq_true rfl) rfl ?_
          refine k_goto (tgt := 51) dX9_walls_141 rfl ?_
          exact ih (k + 1) w2 s' (by omega) (goD_K hw _ ho) hr _
      -- the greatest
      have mid : ∀ br ti fb : Int32, br = (wlS v s).2.1 → ti = (wlS v s).2.2.1 → fb = (wlS v s).2.2.2.1 → OkP G mX9_walls 6 (fun v σ' => (¬ ((1 ≤ (nI m).toInt ∧ (nI m).toInt ≤ 3) ∧ (0 ≤ y.toInt ∧ y.toInt ≤ 4)) ∧ xI G σ (-1) A B C I H T v σ') ∨ ∃ m', nI m = nI m' ∧ 1 ≤ m' ∧ m' ≤ 3 ∧ (0 ≤ y.toInt ∧ y.toInt ≤ 4) ∧ ∃ w0 fa, wK w0 ∧ xI G σ (pick5 y (xWl A.1 m' (va_cpy A.2 fa 0 0 15) 16807 (xS A.1 m' (va_cpy A.2 fa 0 0 15) w0) (nI 0, nI 0, nI 0, -2, nI 0, nI 0)).2.2) A B C I H T v σ') 110 [some (.ref (adr G 0)), some (.int (nI m)), some (.int y), some (.int s.1), some (.int br), some (.int ti), some (.int fb), some (.int s.2.2.2.2.1), some (.int s.2.2.2.2.2), some (.int (nI k)), some (.int v)] [] (putW G σ1 1 A.1 m w) := by
        intro br ti fb hb ht hf
        by_cases h1 : s.1 = 0
        · refine k_iload_n (pc' := 111) dX9_walls_110 rfl ?_
          refine k_if_eq (tgt := 121) (pc' := 114) dX9_walls_111 rfl (fun _ => ?_) (fun zz_ => absurd h1 zz_)
          refine k_iload_n (pc' := 122) dX9_walls_121 rfl ?_
          refine k_istore (pc' := 124) dX9_walls_122 (Nat.le_of_ble_eq_true rfl) rfl ?_
          refine k_iload (pc' := 126) dX9_walls_124 rfl ?_
          refine k_istore (pc' := 128) dX9_walls_126 (Nat.le_of_ble_eq_true rfl) rfl ?_
          refine k_iinc (pc' := 131) (v := s.1 + nI 1) dX9_walls_128 rfl rfl (Nat.le_of_ble_eq_true rfl) rfl ?_
          refine tail (s.1 + nI 1, br, ti, fb, s.1, v) ?_
          rw [hb, ht, hf]
          unfold wlS
          simp only [if_pos h1]
        by_cases h2 : v ≤ s.2.2.2.2.2
        · refine k_iload_n (pc' := 111) dX9_walls_110 rfl ?_
          refine k_if_eq (tgt := 121) (pc' := 114) dX9_walls_111 rfl (fun zz_ => absurd zz_ h1) (fun _ => ?_)
          refine k_iload (pc' := 116) dX9_walls_114 rfl ?_
          refine k_iload (pc' := 118) dX9_walls_116 rfl ?_
          refine k_icmp_le (tgt := 128) (pc' := 121) dX9_walls_118 rfl (fun _ => ?_) (fun zz_ => absurd h2 zz_)
          refine k_iinc (pc' := 131) (v := s.1 + nI 1) dX9_walls_128 rfl rfl (Nat.le_of_ble_eq_true rfl) rfl ?_
          refine tail (s.1 + nI 1, br, ti, fb, s.2.2.2.2.1, s.2.2.2.2.2) ?_
          rw [hb, ht, hf]
          unfold wlS
          simp only [if_neg h1, if_pos h2]
        · refine k_iload_n (pc' := 111) dX9_walls_110 rfl ?_
          refine k_if_eq (tgt := 121) (pc' := 114) dX9_walls_111 rfl (fun zz_ => absurd zz_ h1) (fun _ => ?_)
          refine k_iload (pc' := 116) dX9_walls_114 rfl ?_
          refine k_iload (pc' := 118) dX9_walls_116 rfl ?_
          refine k_icmp_le (tgt := 128) (pc' := 121) dX9_walls_118 rfl (fun zz_ => absurd zz_ h2) (fun _ => ?_)
          refine k_iload_n (pc' := 122) dX9_walls_121 rfl ?_
          refine k_istore (pc' := 124) dX9_walls_122 (Nat.le_of_ble_eq_true rfl) rfl ?_
          refine k_iload (pc' := 126) dX9_walls_124 rfl ?_
          refine k_istore (pc' := 128) dX9_walls_126 (Nat.le_of_ble_eq_true rfl) rfl ?_
          refine k_iinc (pc' := 131) (v := s.1 + nI 1) dX9_walls_128 rfl rfl (Nat.le_of_ble_eq_true rfl) rfl ?_
          refine tail (s.1 + nI 1, br, ti, fb, s.1, v) ?_
          rw [hb, ht, hf]
          unfold wlS
          simp only [if_neg h1, if_neg h2]
      by_cases h1 : v ≤ 0
      · by_cases h2 : v = 0
        · refine k_iload (pc' := 80) dX9_walls_78 rfl ?_
          refine k_if_le (tgt := 102) (pc' := 83) dX9_walls_80 rfl (fun _ => ?_) (fun zz_ => absurd h1 zz_)
          refine k_iload (pc' := 104) dX9_walls_102 rfl ?_
          refine k_if_ne (tgt := 110) (pc' := 107) dX9_walls_104 rfl (fun zz_ => absurd h2 zz_) (fun _ => ?_)
          refine k_iinc (pc' := 110) (v := s.2.2.1 + nI 1) dX9_walls_107 rfl rfl (Nat.le_of_ble_eq_true rfl) rfl ?_
          refine mid _ _ _ ?_ ?_ ?_
          · show _ = s.2.1 + (if v ≤ 0 then nI 0 else nI 1)
            rw [if_pos h1]
            exact (Int32.add_zero _).symm
          · show _ = s.2.2.1 + (if v = 0 then nI 1 else nI 0)
            rw [if_pos h2]
          · show _ = (if v ≤ 0 then _ else _)
            rw [if_pos h1]
        · refine k_iload (pc' := 80) dX9_walls_78 rfl ?_
          refine k_if_le (tgt := 102) (pc' := 83) dX9_walls_80 rfl (fun _ => ?_) (fun zz_ => absurd h1 zz_)
          refine k_iload (pc' := 104) dX9_walls_102 rfl ?_
          refine k_if_ne (tgt := 110) (pc' := 107) dX9_walls_104 rfl (fun _ => ?_) (fun zz_ => absurd zz_ h2)
          refine mid _ _ _ ?_ ?_ ?_
          · show _ = s.2.1 + (if v ≤ 0 then nI 0 else nI 1)
            rw [if_pos h1]
            exact (Int32.add_zero _).symm
          · show _ = s.2.2.1 + (if v = 0 then nI 1 else nI 0)
            rw [if_neg h2]
            exact (Int32.add_zero _).symm
          · show _ = (if v ≤ 0 then _ else _)
            rw [if_pos h1]
      · have h2 : ¬ v = 0 := fun e => h1 (by rw [e]; decide)
        have hb : ∀ fb, fb = (if s.2.1 = 0 then s.1 else s.2.2.2.1) → fb = (wlS v s).2.2.2.1 := by
          intro fb e
          rw [e]
          show _ = (if v ≤ 0 then _ else _)
          rw [if_neg h1]
        have hc : s.2.1 + nI 1 = (wlS v s).2.1 := by
          show _ = s.2.1 + (if v ≤ 0 then nI 0 else nI 1)
          rw [if_neg h1]
        have hd : s.2.2.1 = (wlS v s).2.2.1 := by
          show _ = s.2.2.1 + (if v = 0 then nI 1 else nI 0)
          rw [if_neg h2]
          exact (Int32.add_zero _).symm
        by_cases h3 : s.2.1 = 0
        · refine k_iload (pc' := 80) dX9_walls_78 rfl ?_
          refine k_if_le (tgt := 102) (pc' := 83) dX9_walls_80 rfl (fun zz_ => absurd zz_ h1) (fun _ => ?_)
          refine k_iload (pc' := 85) dX9_walls_83 rfl ?_
          refine k_if_ne (tgt := 92) (pc' := 88) dX9_walls_85 rfl (fun zz_ => absurd h3 zz_) (fun _ => ?_)
          refine k_iload_n (pc' := 89) dX9_walls_88 rfl ?_
          refine k_goto (tgt := 94) dX9_walls_89 rfl ?_
          refine k_istore (pc' := 96) dX9_walls_94 (Nat.le_of_ble_eq_true rfl) rfl ?_
          refine k_iinc (pc' := 99) (v := s.2.1 + nI 1) dX9_walls_96 rfl rfl (Nat.le_of_ble_eq_true rfl) rfl ?_
          refine k_goto (tgt := 110) dX9_walls_99 rfl ?_
          exact mid _ _ _ hc hd (hb _ (by rw [if_pos h3]))
        · refine k_iload (pc' := 80) dX9_walls_78 rfl ?_
          refine k_if_le (tgt := 102) (pc' := 83) dX9_walls_80 rfl (fun zz_ => absurd zz_ h1) (fun _ => ?_)
          refine k_iload (pc' := 85) dX9_walls_83 rfl ?_
          refine k_if_ne (tgt := 92) (pc' := 88) dX9_walls_85 rfl (fun _ => ?_) (fun zz_ => absurd zz_ h3)
          refine k_iload (pc' := 94) dX9_walls_92 rfl ?_
          refine k_istore (pc' := 96) dX9_walls_94 (Nat.le_of_ble_eq_true rfl) rfl ?_
          refine k_iinc (pc' := 99) (v := s.2.1 + nI 1) dX9_walls_96 rfl rfl (Nat.le_of_ble_eq_true rfl) rfl ?_
          refine k_goto (tgt := 110) dX9_walls_99 rfl ?_
          exact mid _ _ _ hc hd (hb _ (by rw [if_neg h3]))
  exact main 16807 0 _ (nI 0, nI 0, nI 0, -2, nI 0, nI 0) rfl (xS_K hw0) rfl _
end X6
