section X3
variable {G : GT} {σ σ' : Sto} {A : XA} {B : XB} {C : XC} {I : XI} {H : XH} {T : XT}
theorem x_place (h : isX G σ A B C I H T) {x y w : Int32} : ConP G mX9_place 2 [.ref (adr G 0), .int x, .int y, .int w] σ (fun v σ' => (¬ ((0 ≤ x.toInt ∧ x.toInt < A.1) ∧ (0 ≤ y.toInt ∧ y.toInt ≤ 99) ∧ (0 ≤ w.toInt ∧ w.toInt ≤ 99)) ∧ xI G σ (-1) A B C I H T v σ') ∨ ∃ i, x = nI i ∧ i < A.1 ∧ (0 ≤ y.toInt ∧ y.toInt ≤ 99) ∧ (0 ≤ w.toInt ∧ w.toInt ≤ 99) ∧ xI G σ (nI 100 * B.1 i + B.2 i) A (upd B.1 i y, upd B.2 i w) C I H T v σ') := by
  have hX := h
  obtain ⟨x0, x1, x3, x5, x8, -⟩ := h
  have e1 := x1.2.2.1
  have hN6 := x1.2.2.2.2.2
  have e5 := x5.2.1
  have e6 := x5.2.2.1
  have e7 := x5.2.2.2
  refine ConP.of rfl (Nat.le_of_ble_eq_true rfl) ?_
  refine k_aload_n (pc' := 1) dX9_place_0 rfl ?_
  refine p_get (pc' := 4) clX9 (Nat.le_of_ble_eq_true rfl) fl_RX9_12 dX9_place_1 (by first | assumption | decide | omega) (by assumption) rfl ?_
  refine k_iload_n (pc' := 5) dX9_place_4 rfl ?_
  refine p_vI (ν := mX6_hasPoint) (pc' := 8) dX9_place_5 ml_RX9_141 mo_X6_hasPoint mv_X6_hasPoint clX6 (Nat.le_of_ble_eq_true rfl) rfl rfl (Nat.le_of_ble_eq_true rfl) (by first | assumption | decide | omega) (by assumption) (by decide) (c_hasPoint x1 x) ?_
  refine k_if_eq (tgt := 31) (pc' := 11) dX9_place_8 rfl (fun c_8 => ?_) (fun c_8 => ?_)
  · rw [bI_eq] at c_8
    refine k_iconst (pc' := 32) (v := -1) dX9_place_31 rfl ?_
    refine p_ireturn dX9_place_32 rfl ?_
    exact Or.inl ⟨fun q => c_8 q.1, rfl, hX, hi.rfl'⟩
  rw [bI_ne] at c_8
  refine k_iload_n (pc' := 12) dX9_place_11 rfl ?_
  refine k_if_lt (tgt := 31) (pc' := 15) dX9_place_12 rfl (fun c_12 => ?_) (fun c_12 => ?_)
  · rw [iLt, i0] at c_12
    refine k_iconst (pc' := 32) (v := -1) dX9_place_31 rfl ?_
    refine p_ireturn dX9_place_32 rfl ?_
    exact Or.inl ⟨fun q => by omega, rfl, hX, hi.rfl'⟩
  rw [iLt, i0] at c_12
  refine k_iload_n (pc' := 16) dX9_place_15 rfl ?_
  refine k_bipush (pc' := 18) (v := nI 99) dX9_place_16 rfl ?_
  refine k_icmp_gt (tgt := 31) (pc' := 21) dX9_place_18 rfl (fun c_18 => ?_) (fun c_18 => ?_)
  · rw [iLt, nI_e (by decide)] at c_18
    refine k_iconst (pc' := 32) (v := -1) dX9_place_31 rfl ?_
    refine p_ireturn dX9_place_32 rfl ?_
    exact Or.inl ⟨fun q => by omega, rfl, hX, hi.rfl'⟩
  rw [iLt, nI_e (by decide)] at c_18
  refine k_iload_n (pc' := 22) dX9_place_21 rfl ?_
  refine k_if_lt (tgt := 31) (pc' := 25) dX9_place_22 rfl (fun c_22 => ?_) (fun c_22 => ?_)
  · rw [iLt, i0] at c_22
    refine k_iconst (pc' := 32) (v := -1) dX9_place_31 rfl ?_
    refine p_ireturn dX9_place_32 rfl ?_
    exact Or.inl ⟨fun q => by omega, rfl, hX, hi.rfl'⟩
  rw [iLt, i0] at c_22
  refine k_iload_n (pc' := 26) dX9_place_25 rfl ?_
  refine k_bipush (pc' := 28) (v := nI 99) dX9_place_26 rfl ?_
  refine k_icmp_le (tgt := 33) (pc' := 31) dX9_place_28 rfl (fun c_28 => ?_) (fun c_28 => ?_)
  rotate_left
  · rw [iLe, nI_e (by decide)] at c_28
    refine k_iconst (pc' := 32) (v := -1) dX9_place_31 rfl ?_
    refine p_ireturn dX9_place_32 rfl ?_
    exact Or.inl ⟨fun q => by omega, rfl, hX, hi.rfl'⟩
  rw [iLe, nI_e (by decide)] at c_28
  obtain ⟨i, hi6, rfl⟩ := nI_in0 (n := A.1) c_8.1 c_8.2 (by omega)
  have y0 : va_up σ (5 + 1) (aI G 6 (upd B.1 i y)) 0 = _ := (up_n (by decide)).trans x0
  have y5 : va_up σ (5 + 1) (aI G 6 (upd B.1 i y)) 5 = _ := (up_n (by decide)).trans e5
  have y7 : va_up σ (5 + 1) (aI G 6 (upd B.1 i y)) (5 + 2) = _ := (up_n (by decide)).trans e7
  refine k_bipush (pc' := 35) (v := nI 100) dX9_place_33 rfl ?_
  refine k_aload_n (pc' := 36) dX9_place_35 rfl ?_
  refine p_get (pc' := 39) clX9 (Nat.le_of_ble_eq_true rfl) fl_RX9_24 dX9_place_36 (by first | assumption | decide | omega) (by assumption) rfl ?_
  refine p_get (pc' := 42) clX2 (Nat.le_of_ble_eq_true rfl) fl_RX9_144 dX9_place_39 (by first | assumption | decide | omega) (by assumption) rfl ?_
  refine k_iload_n (pc' := 43) dX9_place_42 rfl ?_
  refine p_ialdN (pc' := 44) dX9_place_43 (by first | assumption | decide | omega) (by assumption) (by first | decide | omega) (by omega) ?_
  refine k_imul (pc' := 45) (v := nI 100 * B.1 i) dX9_place_44 rfl ?_
  refine k_aload_n (pc' := 46) dX9_place_45 rfl ?_
  refine p_get (pc' := 49) clX9 (Nat.le_of_ble_eq_true rfl) fl_RX9_24 dX9_place_46 (by first | assumption | decide | omega) (by assumption) rfl ?_
  refine p_get (pc' := 52) clX2 (Nat.le_of_ble_eq_true rfl) fl_RX9_147 dX9_place_49 (by first | assumption | decide | omega) (by assumption) rfl ?_
  refine k_iload_n (pc' := 53) dX9_place_52 rfl ?_
  refine p_ialdN (pc' := 54) dX9_place_53 (by first | assumption | decide | omega) (by assumption) (by first | decide | omega) (by omega) ?_
  refine k_iadd (pc' := 55) (v := nI 100 * B.1 i + B.2 i) dX9_place_54 rfl ?_
  refine k_istore (pc' := 57) dX9_place_55 (Nat.le_of_ble_eq_true rfl) rfl ?_
  refine k_aload_n (pc' := 58) dX9_place_57 rfl ?_
  refine p_get (pc' := 61) clX9 (Nat.le_of_ble_eq_true rfl) fl_RX9_24 dX9_place_58 (by first | assumption | decide | omega) (by assumption) rfl ?_
  refine p_get (pc' := 64) clX2 (Nat.le_of_ble_eq_true rfl) fl_RX9_144 dX9_place_61 (by first | assumption | decide | omega) (by assumption) rfl ?_
  refine k_iload_n (pc' := 65) dX9_place_64 rfl ?_
  refine k_iload_n (pc' := 66) dX9_place_65 rfl ?_
  refine p_iastN (pc' := 67) (σ1 := va_up σ (5 + 1) (aI G 6 (upd B.1 i y))) dX9_place_66 (by first | assumption | decide | omega) (by assumption) (by first | decide | omega) (by omega) (by exact rfl) ?_
  refine k_aload_n (pc' := 68) dX9_place_67 rfl ?_
  refine p_get (pc' := 71) clX9 (Nat.le_of_ble_eq_true rfl) fl_RX9_24 dX9_place_68 (by first | assumption | decide | omega) (by assumption) rfl ?_
  refine p_get (pc' := 74) clX2 (Nat.le_of_ble_eq_true rfl) fl_RX9_147 dX9_place_71 (by first | assumption | decide | omega) (by assumption) rfl ?_
  refine k_iload_n (pc' := 75) dX9_place_74 rfl ?_
  refine k_iload_n (pc' := 76) dX9_place_75 rfl ?_
  refine p_iastN (pc' := 77) (σ1 := putP G σ 5 (upd B.1 i y) (upd B.2 i w)) dX9_place_76 (by first | assumption | decide | omega) (by assumption) (by first | decide | omega) (by omega) (by exact rfl) ?_
  refine k_iload (pc' := 79) dX9_place_77 rfl ?_
  refine p_ireturn dX9_place_79 rfl ?_
  have n1 : ∀ q, q ≠ 6 → q ≠ 7 → putP G σ 5 (upd B.1 i y) (upd B.2 i w) q = σ q := fun q a b => putP_n a b
  refine Or.inr ⟨i, rfl, hi6, ⟨by omega, by omega⟩, ⟨by omega, by omega⟩, rfl, hX.dist ?_ ?_ ?_ ?_ ?_ ?_, ?_⟩
  · exact n1 _ (by decide) (by decide)
  · exact x1.loc (n1 _ (by decide) (by decide)) (n1 _ (by decide) (by decide))
  · obtain ⟨M0, g0, x3⟩ := x3
    exact ⟨M0, g0, x3.loc (n1 _ (by decide) (by decide)) (n1 _ (by decide) (by decide))⟩
  · exact putP_P x5
  · exact x8.loc (fun q a b => n1 _ (by omega) (by omega))
  · exact fun q a b => n1 _ (by omega) (by omega)
  · exact fun q a => n1 _ (by omega) (by omega)
/-- the town distances -/
def xTo1 (N : Nat) (B : XB) (i j : Nat) (f : Nat → Int32) : Nat → Int32 := upd f (pI N i j) (ab (B.1 i - B.1 j) + ab (B.2 i - B.2 j))
def xTo2 (N : Nat) (B : XB) (i : Nat) (f : Nat → Int32) : Nat → Int32 := upn (N - (i + 1)) (i + 1) (xTo1 N B i) f
def xTo (N : Nat) (B : XB) (f : Nat → Int32) : Nat → Int32 := upn N 0 (xTo2 N B) f
theorem x_town (h : isX G σ A B C I H T) : ConP G mX9_town 4 [.ref (adr G 0)] σ (fun v σ' => ∃ g f, f = xTo A.1 B (va_cpy A.2 g 0 0 15) ∧ xI G σ (xO A A.1 f) (xDA A A.1 f) (xDB A B A.1 f) (xDC A C A.1 f) I H T v σ') := by
  have hX := h
  obtain ⟨x0, x1, ⟨M0, g0, x3⟩, x5, x8, -⟩ := h
  have e1 := x1.2.2.1
  have e3 := x3.2.2.1
  have hN2 := x1.2.2.2.2.1
  have hN6 := x1.2.2.2.2.2
  refine ConP.of rfl (Nat.le_of_ble_eq_true rfl) ?_
  generalize hQ : (fun v σ' => ∃ g f, f = xTo A.1 B (va_cpy A.2 g 0 0 15) ∧ xI G σ (xO A A.1 f) (xDA A A.1 f) (xDB A B A.1 f) (xDC A C A.1 f) I H T v σ') = Qf
  refine k_aload_n (pc' := 1) dX9_town_0 rfl ?_
  refine p_get (pc' := 4) clX9 (Nat.le_of_ble_eq_true rfl) fl_RX9_18 dX9_town_1 (by first | assumption | decide | omega) (by assumption) rfl ?_
  refine k_aload_n (pc' := 5) dX9_town_4 rfl ?_
  refine p_get (pc' := 8) clX9 (Nat.le_of_ble_eq_true rfl) fl_RX9_12 dX9_town_5 (by first | assumption | decide | omega) (by assumption) rfl ?_
  refine p_vV (ν := mX6_copyFrom) (pc' := 11) dX9_town_8 ml_RX9_109 mo_X6_copyFrom mv_X6_copyFrom clX6 (Nat.le_of_ble_eq_true rfl) rfl rfl (Nat.le_of_ble_eq_true rfl) (by first | assumption | decide | omega) (by assumption) (by decide) (c_copyFrom x3 x1 (by decide) (by decide) (by decide)) ?_
  refine k_iconst (pc' := 12) (v := nI 0) dX9_town_11 rfl ?_
  refine k_istore_n (pc' := 13) dX9_town_12 (Nat.le_of_ble_eq_true rfl) rfl ?_
  have key := loopU (fun i f => ∀ y, OkP G mX9_town 4 Qf 13 [some (.ref (adr G 0)), some (.int (nI i)), y] [] (putT G σ 3 A.1 f)) (xTo2 A.1 B) A.1 0 A.1 (va_cpy A.2 g0 0 0 15) (by omega) ?_ ?_
  · exact key _
  · intro i f _ hi' ih y
    obtain ⟨hX2, z3⟩ := hX.next (g := f) hN2 hN6
    have z0 := hX2.1
    have z1 := hX2.2.1
    have g1 := z1.2.2.1
    refine k_iload_n (pc' := 14) dX9_town_13 rfl ?_
    refine k_aload_n (pc' := 15) dX9_town_14 rfl ?_
    refine p_get (pc' := 18) clX9 (Nat.le_of_ble_eq_true rfl) fl_RX9_12 dX9_town_15 (by first | assumption | decide | omega) (by assumption) rfl ?_
    refine p_get (pc' := 21) clX6 (Nat.le_of_ble_eq_true rfl) fl_RX9_87 dX9_town_18 (by first | assumption | decide | omega) (by assumption) rfl ?_
    refine k_icmp_ge (tgt := 77) (pc' := 24) dX9_town_21 rfl (fun zz_ => absurd zz_ (nI_ge (by omega) (by omega))) (fun _ => ?_)
    refine k_iload_n (pc' := 25) dX9_town_24 rfl ?_
    refine k_iconst (pc' := 26) (v := nI 1) dX9_town_25 rfl ?_
    refine k_iadd (pc' := 27) dX9_town_26 (by first | exact nI_add _ _ | rfl) ?_
    refine k_istore_n (pc' := 28) dX9_town_27 (Nat.le_of_ble_eq_true rfl) rfl ?_
    refine loopU (fun j f => OkP G mX9_town 4 Qf 28 [some (.ref (adr G 0)), some (.int (nI i)), some (.int (nI j))] [] (putT G σ 3 A.1 f)) (xTo1 A.1 B i) A.1 (i + 1) (A.1 - (i + 1)) f (by omega) ?_ ?_
    · intro j f h1 h2 ih2
      obtain ⟨hX2, z3⟩ := hX.next (g := f) hN2 hN6
      have z0 := hX2.1
      have z1 := hX2.2.1
      have z5 := hX2.2.2.2.1
      have g1 := z1.2.2.1
      have g3 := z3.2.2.1
      have g4 := z3.2.2.2.1
      have g5 := z5.2.1
      have hp := pI_lt hN6 hi' h2 (by omega)
      refine k_iload_n (pc' := 29) dX9_town_28 rfl ?_
      refine k_aload_n (pc' := 30) dX9_town_29 rfl ?_
      refine p_get (pc' := 33) clX9 (Nat.le_of_ble_eq_true rfl) fl_RX9_12 dX9_town_30 (by first | assumption | decide | omega) (by assumption) rfl ?_
      refine p_get (pc' := 36) clX6 (Nat.le_of_ble_eq_true rfl) fl_RX9_87 dX9_town_33 (by first | assumption | decide | omega) (by assumption) rfl ?_
      refine k_icmp_ge (tgt := 71) (pc' := 39) dX9_town_36 rfl (fun zz_ => absurd zz_ (nI_ge (by omega) (by omega))) (fun _ => ?_)
      refine k_aload_n (pc' := 40) dX9_town_39 rfl ?_
      refine p_get (pc' := 43) clX9 (Nat.le_of_ble_eq_true rfl) fl_RX9_18 dX9_town_40 (by first | assumption | decide | omega) (by assumption) rfl ?_
      refine p_get (pc' := 46) clX6 (Nat.le_of_ble_eq_true rfl) fl_RX9_113 dX9_town_43 (by first | assumption | decide | omega) (by assumption) rfl ?_
      refine k_aload_n (pc' := 47) dX9_town_46 rfl ?_
      refine p_get (pc' := 50) clX9 (Nat.le_of_ble_eq_true rfl) fl_RX9_18 dX9_town_47 (by first | assumption | decide | omega) (by assumption) rfl ?_
      refine k_iload_n (pc' := 51) dX9_town_50 rfl ?_
      refine k_iload_n (pc' := 52) dX9_town_51 rfl ?_
      refine p_vI (ν := mX6_pairOf) (pc' := 55) dX9_town_52 ml_RX9_117 mo_X6_pairOf mv_X6_pairOf clX6 (Nat.le_of_ble_eq_true rfl) rfl rfl (Nat.le_of_ble_eq_true rfl) (by first | assumption | decide | omega) (by assumption) (by decide) (c_pairOf z3 hi' h2 (by omega)) ?_
      refine k_aload_n (pc' := 56) dX9_town_55 rfl ?_
      refine p_get (pc' := 59) clX9 (Nat.le_of_ble_eq_true rfl) fl_RX9_24 dX9_town_56 (by first | assumption | decide | omega) (by assumption) rfl ?_
      refine k_iload_n (pc' := 60) dX9_town_59 rfl ?_
      refine k_iload_n (pc' := 61) dX9_town_60 rfl ?_
      refine p_vI (ν := mX2_townDistance) (pc' := 64) dX9_town_61 ml_RX9_150 mo_X2_townDistance mv_X2_townDistance clX2 (Nat.le_of_ble_eq_true rfl) rfl rfl (Nat.le_of_ble_eq_true rfl) (by first | assumption | decide | omega) (by assumption) (by decide) (c_townDistance z5 (by omega) (by omega)) ?_
      refine p_iastN (pc' := 65) (σ1 := putT G σ 3 A.1 (xTo1 A.1 B i j f)) dX9_town_64 (by first | assumption | decide | omega) (by assumption) (by first | decide | omega) (by omega) (by exact up_up) ?_
      refine k_iinc (pc' := 68) (v := nI (j + 1)) dX9_town_65 rfl (nI_inc _) (Nat.le_of_ble_eq_true rfl) rfl ?_
      refine k_goto (tgt := 28) dX9_town_68 rfl ?_
      exact ih2
    · obtain ⟨hX2, z3⟩ := hX.next (g := upn (A.1 - (i + 1)) (i + 1) (xTo1 A.1 B i) f) hN2 hN6
      have z0 := hX2.1
      have z1 := hX2.2.1
      have g1 := z1.2.2.1
      refine k_iload_n (pc' := 29) dX9_town_28 rfl ?_
      refine k_aload_n (pc' := 30) dX9_town_29 rfl ?_
      refine p_get (pc' := 33) clX9 (Nat.le_of_ble_eq_true rfl) fl_RX9_12 dX9_town_30 (by first | assumption | decide | omega) (by assumption) rfl ?_
      refine p_get (pc' := 36) clX6 (Nat.le_of_ble_eq_true rfl) fl_RX9_87 dX9_town_33 (by first | assumption | decide | omega) (by assumption) rfl ?_
      refine k_icmp_ge (tgt := 71) (pc' := 39) dX9_town_36 rfl (fun _ => ?_) (fun zz_ => absurd (nI_le (by omega) (by omega)) zz_)
      refine k_iinc (pc' := 74) (v := nI (i + 1)) dX9_town_71 rfl (nI_inc _) (Nat.le_of_ble_eq_true rfl) rfl ?_
      refine k_goto (tgt := 13) dX9_town_74 rfl ?_
      exact ih _
  · intro y
    obtain ⟨hX2, z3⟩ := hX.next (g := upn A.1 0 (xTo2 A.1 B) (va_cpy A.2 g0 0 0 15)) hN2 hN6
    have z0 := hX2.1
    have z1 := hX2.2.1
    have g1 := z1.2.2.1
    refine k_iload_n (pc' := 14) dX9_town_13 rfl ?_
    refine k_aload_n (pc' := 15) dX9_town_14 rfl ?_
    refine p_get (pc' := 18) clX9 (Nat.le_of_ble_eq_true rfl) fl_RX9_12 dX9_town_15 (by first | assumption | decide | omega) (by assumption) rfl ?_
    refine p_get (pc' := 21) clX6 (Nat.le_of_ble_eq_true rfl) fl_RX9_87 dX9_town_18 (by first | assumption | decide | omega) (by assumption) rfl ?_
    refine k_icmp_ge (tgt := 77) (pc' := 24) dX9_town_21 rfl (fun _ => ?_) (fun zz_ => absurd (nI_le (by omega) (by omega)) zz_)
    refine k_aload_n (pc' := 78) dX9_town_77 rfl ?_
    refine p_callV (ν := mX9_doDeed) (pc' := 81) dX9_town_78 ml_RX9_120 mo_X9_doDeed mv_X9_doDeed clX9 (Nat.le_of_ble_eq_true rfl) rfl rfl (Nat.le_of_ble_eq_true rfl) (by first | assumption | decide | omega) (by assumption) (by decide) (x_doDeed hX2 z3) (fun v_78 σ_78 h_78 => ?_)
    obtain ⟨rfl, hX3, -, hh⟩ := h_78
    refine p_ireturn dX9_town_81 rfl ?_
    rw [← hQ]
    exact ⟨g0, _, rfl, rfl, hX3, hi_next.trans hh⟩
def xSt1 (x : Int32) (p : Nat) (f : Nat → Int32) : Nat → Int32 := upd f p (f p * x)
def xSt (N : Nat) (x : Int32) (f : Nat → Int32) : Nat → Int32 := upn (pN N) 0 (xSt1 x) f
theorem x_stretch (h : isX G σ A B C I H T) {x : Int32} : ConP G mX9_stretch 5 [.ref (adr G 0), .int x] σ (fun v σ' => (¬ (0 ≤ x.toInt ∧ x.toInt ≤ 99) ∧ xI G σ (-1) A B C I H T v σ') ∨ ((0 ≤ x.toInt ∧ x.toInt ≤ 99) ∧ ∃ g f, f = xSt A.1 x (va_cpy A.2 g 0 0 15) ∧ ((¬ inB A.1 f ∧ xI G σ (-5) A B C I H T v σ') ∨ (inB A.1 f ∧ xI G σ (tot (xDA A A.1 f).1 (xDA A A.1 f).2) (xDA A A.1 f) (xDB A B A.1 f) (xDC A C A.1 f) I H T v σ')))) := by
  have hX := h
  obtain ⟨x0, x1, ⟨M0, g0, x3⟩, x5, x8, -⟩ := h
  have e1 := x1.2.2.1
  have e3 := x3.2.2.1
  have hN2 := x1.2.2.2.2.1
  have hN6 := x1.2.2.2.2.2
  have hpn := pN_le hN6
  refine ConP.of rfl (Nat.le_of_ble_eq_true rfl) ?_
  generalize hQ : (fun v σ' => (¬ (0 ≤ x.toInt ∧ x.toInt ≤ 99) ∧ xI G σ (-1) A B C I H T v σ') ∨ ((0 ≤ x.toInt ∧ x.toInt ≤ 99) ∧ ∃ g f, f = xSt A.1 x (va_cpy A.2 g 0 0 15) ∧ ((¬ inB A.1 f ∧ xI G σ (-5) A B C I H T v σ') ∨ (inB A.1 f ∧ xI G σ (tot (xDA A A.1 f).1 (xDA A A.1 f).2) (xDA A A.1 f) (xDB A B A.1 f) (xDC A C A.1 f) I H T v σ')))) = Qf
  refine k_iload_n (pc' := 1) dX9_stretch_0 rfl ?_
  refine k_if_lt (tgt := 10) (pc' := 4) dX9_stretch_1 rfl (fun c_1 => ?_) (fun c_1 => ?_)
  · rw [iLt, i0] at c_1
    refine k_iconst (pc' := 11) (v := -1) dX9_stretch_10 rfl ?_
    refine p_ireturn dX9_stretch_11 rfl ?_
    rw [← hQ]
    exact Or.inl ⟨fun q => by omega, rfl, hX, hi.rfl'⟩
  rw [iLt, i0] at c_1
  refine k_iload_n (pc' := 5) dX9_stretch_4 rfl ?_
  refine k_bipush (pc' := 7) (v := nI 99) dX9_stretch_5 rfl ?_
  refine k_icmp_le (tgt := 12) (pc' := 10) dX9_stretch_7 rfl (fun c_7 => ?_) (fun c_7 => ?_)
  rotate_left
  · rw [iLe, nI_e (by decide)] at c_7
    refine k_iconst (pc' := 11) (v := -1) dX9_stretch_10 rfl ?_
    refine p_ireturn dX9_stretch_11 rfl ?_
    rw [← hQ]
    exact Or.inl ⟨fun q => by omega, rfl, hX, hi.rfl'⟩
  rw [iLe, nI_e (by decide)] at c_7
  refine k_aload_n (pc' := 13) dX9_stretch_12 rfl ?_
  refine p_get (pc' := 16) clX9 (Nat.le_of_ble_eq_true rfl) fl_RX9_18 dX9_stretch_13 (by first | assumption | decide | omega) (by assumption) rfl ?_
  refine k_aload_n (pc' := 17) dX9_stretch_16 rfl ?_
  refine p_get (pc' := 20) clX9 (Nat.le_of_ble_eq_true rfl) fl_RX9_12 dX9_stretch_17 (by first | assumption | decide | omega) (by assumption) rfl ?_
  refine p_vV (ν := mX6_copyFrom) (pc' := 23) dX9_stretch_20 ml_RX9_109 mo_X6_copyFrom mv_X6_copyFrom clX6 (Nat.le_of_ble_eq_true rfl) rfl rfl (Nat.le_of_ble_eq_true rfl) (by first | assumption | decide | omega) (by assumption) (by decide) (c_copyFrom x3 x1 (by decide) (by decide) (by decide)) ?_
  refine k_iconst (pc' := 24) (v := nI 0) dX9_stretch_23 rfl ?_
  refine k_istore_n (pc' := 25) dX9_stretch_24 (Nat.le_of_ble_eq_true rfl) rfl ?_
  refine loopU (fun p f => OkP G mX9_stretch 5 Qf 25 [some (.ref (adr G 0)), some (.int x), some (.int (nI p))] [] (putT G σ 3 A.1 f)) (xSt1 x) (pN A.1) 0 (pN A.1) (va_cpy A.2 g0 0 0 15) (by omega) ?_ ?_
  · intro p f _ hp ih
    obtain ⟨hX2, z3⟩ := hX.next (g := f) hN2 hN6
    have z0 := hX2.1
    have z1 := hX2.2.1
    have g1 := z1.2.2.1
    have g3 := z3.2.2.1
    have g4 := z3.2.2.2.1
    refine k_iload_n (pc' := 26) dX9_stretch_25 rfl ?_
    refine k_aload_n (pc' := 27) dX9_stretch_26 rfl ?_
    refine p_get (pc' := 30) clX9 (Nat.le_of_ble_eq_true rfl) fl_RX9_12 dX9_stretch_27 (by first | assumption | decide | omega) (by assumption) rfl ?_
    refine p_vI (ν := mX6_pairCount) (pc' := 33) dX9_stretch_30 ml_RX9_132 mo_X6_pairCount mv_X6_pairCount clX6 (Nat.le_of_ble_eq_true rfl) rfl rfl (Nat.le_of_ble_eq_true rfl) (by first | assumption | decide | omega) (by assumption) (by decide) (c_pairCount z1) ?_
    refine k_icmp_ge (tgt := 55) (pc' := 36) dX9_stretch_33 rfl (fun zz_ => absurd zz_ (nI_ge (by omega) (by omega))) (fun _ => ?_)
    refine k_aload_n (pc' := 37) dX9_stretch_36 rfl ?_
    refine p_get (pc' := 40) clX9 (Nat.le_of_ble_eq_true rfl) fl_RX9_18 dX9_stretch_37 (by first | assumption | decide | omega) (by assumption) rfl ?_
    refine p_get (pc' := 43) clX6 (Nat.le_of_ble_eq_true rfl) fl_RX9_113 dX9_stretch_40 (by first | assumption | decide | omega) (by assumption) rfl ?_
    refine k_iload_n (pc' := 44) dX9_stretch_43 rfl ?_
    refine k_dup2 (pc' := 45) dX9_stretch_44 rfl rfl ?_
    refine p_ialdN (pc' := 46) dX9_stretch_45 (by first | assumption | decide | omega) (by assumption) (by first | decide | omega) (by omega) ?_
    refine k_iload_n (pc' := 47) dX9_stretch_46 rfl ?_
    refine k_imul (pc' := 48) (v := f p * x) dX9_stretch_47 rfl ?_
    refine p_iastN (pc' := 49) (σ1 := putT G σ 3 A.1 (xSt1 x p f)) dX9_stretch_48 (by first | assumption | decide | omega) (by assumption) (by first | decide | omega) (by omega) (by exact up_up) ?_
    refine k_iinc (pc' := 52) (v := nI (p + 1)) dX9_stretch_49 rfl (nI_inc _) (Nat.le_of_ble_eq_true rfl) rfl ?_
    refine k_goto (tgt := 25) dX9_stretch_52 rfl ?_
    exact ih
  · obtain ⟨hX2, z3⟩ := hX.next (g := upn (pN A.1) 0 (xSt1 x) (va_cpy A.2 g0 0 0 15)) hN2 hN6
    have z0 := hX2.1
    have z1 := hX2.2.1
    have g1 := z1.2.2.1
    refine k_iload_n (pc' := 26) dX9_stretch_25 rfl ?_
    refine k_aload_n (pc' := 27) dX9_stretch_26 rfl ?_
    refine p_get (pc' := 30) clX9 (Nat.le_of_ble_eq_true rfl) fl_RX9_12 dX9_stretch_27 (by first | assumption | decide | omega) (by assumption) rfl ?_
    refine p_vI (ν := mX6_pairCount) (pc' := 33) dX9_stretch_30 ml_RX9_132 mo_X6_pairCount mv_X6_pairCount clX6 (Nat.le_of_ble_eq_true rfl) rfl rfl (Nat.le_of_ble_eq_true rfl) (by first | assumption | decide | omega) (by assumption) (by decide) (c_pairCount z1) ?_
    refine k_icmp_ge (tgt := 55) (pc' := 36) dX9_stretch_33 rfl (fun _ => ?_) (fun zz_ => absurd (nI_le (by omega) (by omega)) zz_)
    refine k_aload_n (pc' := 56) dX9_stretch_55 rfl ?_
    refine p_callV (ν := mX9_doDeedInBounds) (pc' := 59) dX9_stretch_56 ml_RX9_135 mo_X9_doDeedInBounds mv_X9_doDeedInBounds clX9 (Nat.le_of_ble_eq_true rfl) rfl rfl (Nat.le_of_ble_eq_true rfl) (by first | assumption | decide | omega) (by assumption) (by decide) (x_doDeedInBounds hX2 z3) (fun v_56 σ_56 h_56 => ?_)
    rcases h_56 with ⟨hb, rfl, hX3, hh⟩ | ⟨hb, rfl, hX3, hh⟩
    · refine p_ireturn dX9_stretch_59 rfl ?_
      rw [← hQ]
      exact Or.inr ⟨⟨by omega, by omega⟩, g0, _, rfl, Or.inl ⟨hb, rfl, hX3, hi_next.trans hh⟩⟩
    · refine p_ireturn dX9_stretch_59 rfl ?_
      rw [← hQ]
      exact Or.inr ⟨⟨by omega, by omega⟩, g0, _, rfl, Or.inr ⟨hb, rfl, hX3, hi_next.trans hh⟩⟩
theorem x_back (h : isX G σ A B C I H T) : ConP G mX9_back 3 [.ref (adr G 0)] σ (fun v σ' => (C.2.1 = 0 ∧ xI G σ (-5) A B C I H T v σ') ∨ (0 < C.2.1 ∧ xI G σ (nI (C.2.1 - 1)) (C.2.2.1 ((C.1 + 7) % 8), va_cpy (C.2.2.2 ((C.1 + 7) % 8)) A.2 0 0 15) (clF (C.2.2.1 ((C.1 + 7) % 8)) 6 B.1, clF (C.2.2.1 ((C.1 + 7) % 8)) 6 B.2) ((C.1 + 7) % 8, C.2.1 - 1, C.2.2.1, C.2.2.2) I H T v σ')) := by
  have hX := h
  obtain ⟨x0, x1, ⟨M0, g0, x3⟩, x5, x8, -⟩ := h
  have e8 := x8.1
  have hsz := x8.2.2.2.2
  have hm : (C.1 + 7) % 8 < 8 := Nat.mod_lt _ (by decide)
  refine ConP.of rfl (Nat.le_of_ble_eq_true rfl) ?_
  refine k_aload_n (pc' := 1) dX9_back_0 rfl ?_
  refine p_get (pc' := 4) clX9 (Nat.le_of_ble_eq_true rfl) fl_RX9_31 dX9_back_1 (by first | assumption | decide | omega) (by assumption) rfl ?_
  refine p_get (pc' := 7) clX0 (Nat.le_of_ble_eq_true rfl) fl_RX9_153 dX9_back_4 (by first | assumption | decide | omega) (by assumption) rfl ?_
  refine k_if_ne (tgt := 13) (pc' := 10) dX9_back_7 rfl (fun c_7 => ?_) (fun c_7 => ?_)
  rotate_left
  · rw [iEq, i0, nI_e (by omega)] at c_7
    refine k_bipush (pc' := 12) (v := -5) dX9_back_10 rfl ?_
    refine p_ireturn dX9_back_12 rfl ?_
    exact Or.inl ⟨by omega, rfl, hX, hi.rfl'⟩
  rw [iEq, i0, nI_e (by omega)] at c_7
  refine k_aload_n (pc' := 14) dX9_back_13 rfl ?_
  refine p_get (pc' := 17) clX9 (Nat.le_of_ble_eq_true rfl) fl_RX9_31 dX9_back_14 (by first | assumption | decide | omega) (by assumption) rfl ?_
  refine k_aload_n (pc' := 18) dX9_back_17 rfl ?_
  refine p_get (pc' := 21) clX9 (Nat.le_of_ble_eq_true rfl) fl_RX9_12 dX9_back_18 (by first | assumption | decide | omega) (by assumption) rfl ?_
  refine p_vV (ν := mX0_takeBack) (pc' := 24) dX9_back_21 ml_RX9_156 mo_X0_takeBack mv_X0_takeBack clX0 (Nat.le_of_ble_eq_true rfl) rfl rfl (Nat.le_of_ble_eq_true rfl) (by first | assumption | decide | omega) (by assumption) (by decide) (c_takeBack x8 x1 (by decide) (by omega)) ?_
  generalize hM : C.2.2.1 ((C.1 + 7) % 8) = M
  have hr := x8.2.2.1 _ hm
  rw [hM] at hr
  generalize hs1 : va_up σ 8 (ob 0 [.ref (adr G 9), .int (nI ((C.1 + 7) % 8)), .int (nI (C.2.1 - 1))]) = σ1
  have l1 : ∀ q, q ≠ 8 → σ1 q = σ q := fun q hq => by rw [← hs1, up_n hq]
  have d1 : isDe G σ1 ((C.1 + 7) % 8) (C.2.1 - 1) C.2.2.1 C.2.2.2 := by
    rw [← hs1]
    exact x8.sized hm (by omega)
  generalize hg : va_cpy (C.2.2.2 ((C.1 + 7) % 8)) A.2 0 0 15 = g
  have y1 := x1.loc (l1 1 (by decide)) (l1 2 (by decide))
  have z0 : putT G σ1 1 M g 0 = _ := (putT_n (by decide) (by decide)).trans ((l1 0 (by decide)).trans x0)
  have z1 : isT G (putT G σ1 1 M g) 1 M g := putT_T y1 hr.2.2.2.2.1 hr.2.2.2.2.2
  have z5 : isPl G (putT G σ1 1 M g) 5 B.1 B.2 := x5.loc ((putT_n (by decide) (by decide)).trans (l1 _ (by decide))) ((putT_n (by decide) (by decide)).trans (l1 _ (by decide))) ((putT_n (by decide) (by decide)).trans (l1 _ (by decide)))
  have f1 := z1.2.2.1
  have f5 := z5.2.1
  refine k_aload_n (pc' := 25) dX9_back_24 rfl ?_
  refine p_get (pc' := 28) clX9 (Nat.le_of_ble_eq_true rfl) fl_RX9_24 dX9_back_25 (by first | assumption | decide | omega) (by assumption) rfl ?_
  refine k_aload_n (pc' := 29) dX9_back_28 rfl ?_
  refine p_get (pc' := 32) clX9 (Nat.le_of_ble_eq_true rfl) fl_RX9_12 dX9_back_29 (by first | assumption | decide | omega) (by assumption) rfl ?_
  refine p_get (pc' := 35) clX6 (Nat.le_of_ble_eq_true rfl) fl_RX9_87 dX9_back_32 (by first | assumption | decide | omega) (by assumption) rfl ?_
  refine p_vV (ν := mX2_clearFrom) (pc' := 38) dX9_back_35 ml_RX9_95 mo_X2_clearFrom mv_X2_clearFrom clX2 (Nat.le_of_ble_eq_true rfl) rfl rfl (Nat.le_of_ble_eq_true rfl) (by first | assumption | decide | omega) (by assumption) (by decide) (c_clearFrom z5 z1.2.2.2.2.2) ?_
  generalize hs2 : putP G (putT G σ1 1 M g) 5 (clF M 6 B.1) (clF M 6 B.2) = σ2
  have l2 : ∀ q, q ≠ 6 → q ≠ 7 → σ2 q = putT G σ1 1 M g q := fun q a b => by rw [← hs2, putP_n a b]
  have l3 : ∀ q, q = 0 ∨ q = 3 ∨ q = 4 ∨ 9 ≤ q → σ2 q = σ q := fun q a => (l2 q (by omega) (by omega)).trans ((putT_n (by omega) (by omega)).trans (l1 q (by omega)))
  have d2 : isDe G σ2 ((C.1 + 7) % 8) (C.2.1 - 1) C.2.2.1 C.2.2.2 := d1.loc (fun q a b => (l2 q (by omega) (by omega)).trans (putT_n (by omega) (by omega)))
  have w0 : σ2 0 = _ := (l2 0 (by decide) (by decide)).trans z0
  have w8 := d2.1
  refine k_aload_n (pc' := 39) dX9_back_38 rfl ?_
  refine p_get (pc' := 42) clX9 (Nat.le_of_ble_eq_true rfl) fl_RX9_31 dX9_back_39 (by first | assumption | decide | omega) (by assumption) rfl ?_
  refine p_get (pc' := 45) clX0 (Nat.le_of_ble_eq_true rfl) fl_RX9_153 dX9_back_42 (by first | assumption | decide | omega) (by assumption) rfl ?_
  refine p_ireturn dX9_back_45 rfl ?_
  refine Or.inr ⟨by omega, rfl, hX.dist ?_ ?_ ?_ ?_ ?_ ?_, ?_⟩
  · exact l3 _ (by decide)
  · exact z1.loc (l2 _ (by decide) (by decide)) (l2 _ (by decide) (by decide))
  · exact ⟨M0, g0, x3.loc (l3 _ (by decide)) (l3 _ (by decide))⟩
  · rw [← hs2]
    exact putP_P z5
  · exact d2
  · exact fun q a b => l3 q (by omega)
  · exact fun q a => l3 q (by omega)
end X3
