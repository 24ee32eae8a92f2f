/-! CutDistances: deeds -/
abbrev xCh (A : XA) (M : Nat) (g : Nat → Int32) : Prop := A.1 ≠ M ∨ nI 0 < unl A.1 A.2 g
def xO (A : XA) (M : Nat) (g : Nat → Int32) : Int32 := if A.1 = M then unl A.1 A.2 g else nI 0
def xDA (A : XA) (M : Nat) (g : Nat → Int32) : XA := if xCh A M g then (M, va_cpy g A.2 0 0 15) else A
def xDB (A : XA) (B : XB) (M : Nat) (g : Nat → Int32) : XB := if xCh A M g then (clF M 6 B.1, clF M 6 B.2) else B
def xDC (A : XA) (C : XC) (M : Nat) (g : Nat → Int32) : XC := if xCh A M g then ((C.1 + 1) % 8, (if C.2.1 < 8 then C.2.1 + 1 else 8), va_up C.2.2.1 C.1 A.1, va_up C.2.2.2 C.1 (va_cpy A.2 (C.2.2.2 C.1) 0 0 15)) else C
section X1
variable {G : GT} {σ σ' : Sto} {A : XA} {B : XB} {C : XC} {I : XI} {H : XH} {T : XT}
theorem isDe.kept {fr sz N fr2 sz2 : Nat} {dN : Nat → Nat} {dF : Nat → Nat → Int32} {f : Nat → Int32} (h : isDe G σ fr sz dN dF) (hN : 2 ≤ N) (hN6 : N ≤ 6) (h1 : fr2 < 8) (h2 : sz2 ≤ 8) : isDe G (va_up (putT G σ (10 + 2 * fr) N f) 8 (ob 0 [.ref (adr G 9), .int (nI fr2), .int (nI sz2)])) fr2 sz2 (va_up dN fr N) (va_up dF fr f) := by
  obtain ⟨h8, h9, hK, hfr, hsz⟩ := h
  refine ⟨up_s, (up_n (by decide)).trans ((putT_n (by omega) (by omega)).trans h9), fun k hk => ?_, h1, h2⟩
  by_cases e : k = fr
  · subst e
    rw [up_s, up_s]
    exact (putT_T (hK k hk) hN hN6).loc (up_n (by omega)) (up_n (by omega))
  · rw [up_n e, up_n e]
    exact (putT_far (hK k hk) (by omega) (by omega) (by omega)).loc (up_n (by omega)) (up_n (by omega))
theorem isDe.sized {fr sz fr2 sz2 : Nat} {dN : Nat → Nat} {dF : Nat → Nat → Int32} (h : isDe G σ fr sz dN dF) (h1 : fr2 < 8) (h2 : sz2 ≤ 8) : isDe G (va_up σ 8 (ob 0 [.ref (adr G 9), .int (nI fr2), .int (nI sz2)])) fr2 sz2 dN dF := by
  obtain ⟨h8, h9, hK, hfr, hsz⟩ := h
  exact ⟨up_s, (up_n (by decide)).trans h9, fun k hk => (hK k hk).loc (up_n (by omega)) (up_n (by omega)), h1, h2⟩
theorem x_doDeed {M : Nat} {g : Nat → Int32} (h : isX G σ A B C I H T) (hn : isT G σ 3 M g) : ConP G mX9_doDeed 3 [.ref (adr G 0)] σ (fun v σ' => v = some (.int (xO A M g)) ∧ isX G σ' (xDA A M g) (xDB A B M g) (xDC A C M g) I H T ∧ isT G σ' 3 M g ∧ hi σ σ') := by
  have hX := h
  obtain ⟨x0, x1, -, x5, x8, -⟩ := h
  have e1 := x1.2.2.1
  have e3 := hn.2.2.1
  have e8 := x8.1
  have e5 := x5.2.1
  have hA2 := x1.2.2.2.2.1
  have hA6 := x1.2.2.2.2.2
  have hM2 := hn.2.2.2.2.1
  have hM6 := hn.2.2.2.2.2
  refine ConP.of rfl (Nat.le_of_ble_eq_true rfl) ?_
  refine k_aload_n (pc' := 1) dX9_doDeed_0 rfl ?_
  refine p_get (pc' := 4) clX9 (Nat.le_of_ble_eq_true rfl) fl_RX9_12 dX9_doDeed_1 (by first | assumption | decide | omega) (by assumption) rfl ?_
  refine k_aload_n (pc' := 5) dX9_doDeed_4 rfl ?_
  refine p_get (pc' := 8) clX9 (Nat.le_of_ble_eq_true rfl) fl_RX9_18 dX9_doDeed_5 (by first | assumption | decide | omega) (by assumption) rfl ?_
  refine p_vI (ν := mX6_unlike) (pc' := 11) dX9_doDeed_8 ml_RX9_159 mo_X6_unlike mv_X6_unlike clX6 (Nat.le_of_ble_eq_true rfl) rfl rfl (Nat.le_of_ble_eq_true rfl) (by first | assumption | decide | omega) (by assumption) (by decide) (c_unlike x1 hn) ?_
  refine k_istore_n (pc' := 12) dX9_doDeed_11 (Nat.le_of_ble_eq_true rfl) rfl ?_
  have doIt : xCh A M g → OkP G mX9_doDeed 3 (fun v σ' => v = some (.int (xO A M g)) ∧ isX G σ' (xDA A M g) (xDB A B M g) (xDC A C M g) I H T ∧ isT G σ' 3 M g ∧ hi σ σ') 33 [some (.ref (adr G 0)), some (.int (if A.1 = M then unl A.1 A.2 g else nI 0))] [] σ := by
    intro hc
    unfold xDA xDB xDC
    rw [if_pos hc, if_pos hc, if_pos hc]
    refine k_aload_n (pc' := 34) dX9_doDeed_33 rfl ?_
    refine p_get (pc' := 37) clX9 (Nat.le_of_ble_eq_true rfl) fl_RX9_31 dX9_doDeed_34 (by first | assumption | decide | omega) (by assumption) rfl ?_
    refine k_aload_n (pc' := 38) dX9_doDeed_37 rfl ?_
    refine p_get (pc' := 41) clX9 (Nat.le_of_ble_eq_true rfl) fl_RX9_12 dX9_doDeed_38 (by first | assumption | decide | omega) (by assumption) rfl ?_
    refine p_vV (ν := mX0_keep) (pc' := 44) dX9_doDeed_41 ml_RX9_163 mo_X0_keep mv_X0_keep clX0 (Nat.le_of_ble_eq_true rfl) rfl rfl (Nat.le_of_ble_eq_true rfl) (by first | assumption | decide | omega) (by assumption) (by decide) (c_keep x8 x1 (by decide)) ?_
    generalize hs1 : va_up (putT G σ (10 + 2 * C.1) A.1 (va_cpy A.2 (C.2.2.2 C.1) 0 0 15)) 8 (ob 0 [.ref (adr G 9), .int (nI ((C.1 + 1) % 8)), .int (nI (if C.2.1 < 8 then C.2.1 + 1 else 8))]) = σ1
    have hf8 := x8.2.2.2.1
    have l1 : ∀ q, q < 8 ∨ 26 ≤ q → σ1 q = σ q := fun q hq => by rw [← hs1, up_n (by omega), putT_n (by omega) (by omega)]
    have d1 : isDe G σ1 ((C.1 + 1) % 8) (if C.2.1 < 8 then C.2.1 + 1 else 8) (va_up C.2.2.1 C.1 A.1) (va_up C.2.2.2 C.1 (va_cpy A.2 (C.2.2.2 C.1) 0 0 15)) := by
      rw [← hs1]
      exact x8.kept hA2 hA6 (Nat.mod_lt _ (by decide)) (by split <;> omega)
    have y0 := (l1 0 (by decide)).trans x0
    have y1 := x1.loc (l1 1 (by decide)) (l1 2 (by decide))
    have y3 := hn.loc (l1 3 (by decide)) (l1 4 (by decide))
    have y5 := x5.loc (l1 5 (by decide)) (l1 6 (by decide)) (l1 7 (by decide))
    have f1 := y1.2.2.1
    refine k_aload_n (pc' := 45) dX9_doDeed_44 rfl ?_
    refine p_get (pc' := 48) clX9 (Nat.le_of_ble_eq_true rfl) fl_RX9_12 dX9_doDeed_45 (by first | assumption | decide | omega) (by assumption) rfl ?_
    refine k_aload_n (pc' := 49) dX9_doDeed_48 rfl ?_
    refine p_get (pc' := 52) clX9 (Nat.le_of_ble_eq_true rfl) fl_RX9_18 dX9_doDeed_49 (by first | assumption | decide | omega) (by assumption) rfl ?_
    refine p_vV (ν := mX6_copyFrom) (pc' := 55) dX9_doDeed_52 ml_RX9_109 mo_X6_copyFrom mv_X6_copyFrom clX6 (Nat.le_of_ble_eq_true rfl) rfl rfl (Nat.le_of_ble_eq_true rfl) (by first | assumption | decide | omega) (by assumption) (by decide) (c_copyFrom y1 y3 (by decide) (by decide) (by decide)) ?_
    have z0 : putT G σ1 1 M (va_cpy g A.2 0 0 15) 0 = _ := (putT_n (by decide) (by decide)).trans y0
    have z5 : isPl G (putT G σ1 1 M (va_cpy g A.2 0 0 15)) 5 B.1 B.2 := y5.loc (putT_n (by decide) (by decide)) (putT_n (by decide) (by decide)) (putT_n (by decide) (by decide))
    have f5 := z5.2.1
    refine k_aload_n (pc' := 56) dX9_doDeed_55 rfl ?_
    refine p_get (pc' := 59) clX9 (Nat.le_of_ble_eq_true rfl) fl_RX9_24 dX9_doDeed_56 (by first | assumption | decide | omega) (by assumption) rfl ?_
    refine k_aload_n (pc' := 60) dX9_doDeed_59 rfl ?_
    refine p_get (pc' := 63) clX9 (Nat.le_of_ble_eq_true rfl) fl_RX9_12 dX9_doDeed_60 (by first | assumption | decide | omega) (by assumption) rfl ?_
    refine p_get (pc' := 66) clX6 (Nat.le_of_ble_eq_true rfl) fl_RX9_87 dX9_doDeed_63 (by first | assumption | decide | omega) putT_t rfl ?_
    refine p_vV (ν := mX2_clearFrom) (pc' := 69) dX9_doDeed_66 ml_RX9_95 mo_X2_clearFrom mv_X2_clearFrom clX2 (Nat.le_of_ble_eq_true rfl) rfl rfl (Nat.le_of_ble_eq_true rfl) (by first | assumption | decide | omega) (by assumption) (by decide) (c_clearFrom z5 hM6) ?_
    refine k_iload_n (pc' := 70) dX9_doDeed_69 rfl ?_
    refine p_ireturn dX9_doDeed_70 rfl ?_
    refine ⟨rfl, hX.dist ?_ ?_ ?_ ?_ ?_ ?_, ?_, ?_⟩
    · exact (putP_n (by decide) (by decide)).trans ((putT_n (by decide) (by decide)).trans (l1 _ (by decide)))
    · exact (putT_T y1 hM2 hM6).loc (putP_n (by decide) (by decide)) (putP_n (by decide) (by decide))
    · exact ⟨M, g, (putT_far y3 (by decide) (by decide) (by decide)).loc (putP_n (by decide) (by decide)) (putP_n (by decide) (by decide))⟩
    · exact putP_P z5
    · exact d1.loc (fun q a b => (putP_n (by omega) (by omega)).trans (putT_n (by omega) (by omega)))
    · exact fun q a b => (putP_n (by omega) (by omega)).trans ((putT_n (by omega) (by omega)).trans (l1 _ (by omega)))
    · exact (putT_far y3 (by decide) (by decide) (by decide)).loc (putP_n (by decide) (by decide)) (putP_n (by decide) (by decide))
    · exact fun q a => (putP_n (by omega) (by omega)).trans ((putT_n (by omega) (by omega)).trans (l1 _ (by omega)))
  refine k_iload_n (pc' := 13) dX9_doDeed_12 rfl ?_
  refine k_if_gt (tgt := 33) (pc' := 16) dX9_doDeed_13 rfl (fun c_13 => ?_) (fun c_13 => ?_)
  · refine doIt ?_
    by_cases e : A.1 = M
    · rw [if_pos e] at c_13
      exact Or.inr c_13
    · exact Or.inl e
  refine k_aload_n (pc' := 17) dX9_doDeed_16 rfl ?_
  refine p_get (pc' := 20) clX9 (Nat.le_of_ble_eq_true rfl) fl_RX9_12 dX9_doDeed_17 (by first | assumption | decide | omega) (by assumption) rfl ?_
  refine p_get (pc' := 23) clX6 (Nat.le_of_ble_eq_true rfl) fl_RX9_87 dX9_doDeed_20 (by first | assumption | decide | omega) (by assumption) rfl ?_
  refine k_aload_n (pc' := 24) dX9_doDeed_23 rfl ?_
  refine p_get (pc' := 27) clX9 (Nat.le_of_ble_eq_true rfl) fl_RX9_18 dX9_doDeed_24 (by first | assumption | decide | omega) (by assumption) rfl ?_
  refine p_get (pc' := 30) clX6 (Nat.le_of_ble_eq_true rfl) fl_RX9_87 dX9_doDeed_27 (by first | assumption | decide | omega) (by assumption) rfl ?_
  refine k_icmp_eq (tgt := 69) (pc' := 33) dX9_doDeed_30 rfl (fun c_30 => ?_) (fun c_30 => ?_)
  · have e : A.1 = M := by
      rw [iEq, nI_e (by omega), nI_e (by omega)] at c_30
      omega
    have hc : ¬ xCh A M g := by
      rw [if_pos e] at c_13
      exact fun q => q.elim (fun q => q e) c_13
    refine k_iload_n (pc' := 70) dX9_doDeed_69 rfl ?_
    refine p_ireturn dX9_doDeed_70 rfl ?_
    unfold xDA xDB xDC
    rw [if_neg hc, if_neg hc, if_neg hc]
    exact ⟨rfl, hX, hn, fun _ _ => rfl⟩
  · exact doIt (Or.inl (fun e => c_30 (by rw [e])))
theorem x_doDeedInBounds {M : Nat} {g : Nat → Int32} (h : isX G σ A B C I H T) (hn : isT G σ 3 M g) : ConP G mX9_doDeedInBounds 4 [.ref (adr G 0)] σ (fun v σ' => (¬ inB M g ∧ xI G σ (-5) A B C I H T v σ') ∨ (inB M g ∧ xI G σ (tot (xDA A M g).1 (xDA A M g).2) (xDA A M g) (xDB A B M g) (xDC A C M g) I H T v σ')) := by
  have hX := h
  have x0 := h.1
  have e3 := hn.2.2.1
  refine ConP.of rfl (Nat.le_of_ble_eq_true rfl) ?_
  refine k_aload_n (pc' := 1) dX9_doDeedInBounds_0 rfl ?_
  refine p_get (pc' := 4) clX9 (Nat.le_of_ble_eq_true rfl) fl_RX9_18 dX9_doDeedInBounds_1 (by first | assumption | decide | omega) (by assumption) rfl ?_
  refine p_vI (ν := mX6_inBounds) (pc' := 7) dX9_doDeedInBounds_4 ml_RX9_166 mo_X6_inBounds mv_X6_inBounds clX6 (Nat.le_of_ble_eq_true rfl) rfl rfl (Nat.le_of_ble_eq_true rfl) (by first | assumption | decide | omega) (by assumption) (by decide) (c_inBounds hn) ?_
  refine k_if_ne (tgt := 13) (pc' := 10) dX9_doDeedInBounds_7 rfl (fun c_7 => ?_) (fun c_7 => ?_)
  rotate_left
  · rw [bI_eq] at c_7
    refine k_bipush (pc' := 12) (v := -5) dX9_doDeedInBounds_10 rfl ?_
    refine p_ireturn dX9_doDeedInBounds_12 rfl ?_
    exact Or.inl ⟨c_7, rfl, hX, fun _ _ => rfl⟩
  rw [bI_ne] at c_7
  refine k_aload_n (pc' := 14) dX9_doDeedInBounds_13 rfl ?_
  refine p_callV (ν := mX9_doDeed) (pc' := 17) dX9_doDeedInBounds_14 ml_RX9_120 mo_X9_doDeed mv_X9_doDeed clX9 (Nat.le_of_ble_eq_true rfl) rfl rfl (Nat.le_of_ble_eq_true rfl) (by first | assumption | decide | omega) (by assumption) (by decide) (x_doDeed hX hn) (fun v_14 σ_14 h_14 => ?_)
  obtain ⟨rfl, hX2, -, hh⟩ := h_14
  have x0' := hX2.1
  have x1' := hX2.2.1
  have f1 := x1'.2.2.1
  refine k_pop (pc' := 18) dX9_doDeedInBounds_17 rfl ?_
  refine k_aload_n (pc' := 19) dX9_doDeedInBounds_18 rfl ?_
  refine p_get (pc' := 22) clX9 (Nat.le_of_ble_eq_true rfl) fl_RX9_12 dX9_doDeedInBounds_19 (by first | assumption | decide | omega) (by assumption) rfl ?_
  refine p_vI (ν := mX6_total) (pc' := 25) dX9_doDeedInBounds_22 ml_RX9_170 mo_X6_total mv_X6_total clX6 (Nat.le_of_ble_eq_true rfl) rfl rfl (Nat.le_of_ble_eq_true rfl) (by first | assumption | decide | omega) (by assumption) (by decide) (c_total x1') ?_
  refine p_ireturn dX9_doDeedInBounds_25 rfl ?_
  exact Or.inr ⟨c_7, rfl, hX2, hh⟩
end X1
