/-! the model's own answers and states -/
abbrev cutOk (N : Nat) (x w : Int32) (f : Nat → Int32) : Prop := ∀ i, i < N → ∀ j, j < N → i < j → sepP x i j → 0 ≤ (f (6 * i + j) + w).toInt ∧ (f (6 * i + j) + w).toInt ≤ 999
def mCut1 (x w : Int32) (i j : Nat) (f : Nat → Int32) : Nat → Int32 := if sepP x i j then mIs i j (f (6 * i + j) + w) f else f
def mCut2 (N : Nat) (x w : Int32) (i : Nat) (f : Nat → Int32) : Nat → Int32 := upn (N - (i + 1)) (i + 1) (mCut1 x w i) f
def mCut (N : Nat) (x w : Int32) (f : Nat → Int32) : Nat → Int32 := upn N 0 (mCut2 N x w) f
def mPa1 (k i j : Nat) (f : Nat → Int32) : Nat → Int32 := if i ≠ j ∧ f (6 * i + k) + f (6 * k + j) < f (6 * i + j) then mIs i j (f (6 * i + k) + f (6 * k + j)) f else f
def mPa2 (N k i : Nat) (f : Nat → Int32) : Nat → Int32 := upn N 0 (mPa1 k i) f
def mPa3 (N k : Nat) (f : Nat → Int32) : Nat → Int32 := upn N 0 (mPa2 N k) f
def mPa (N : Nat) (f : Nat → Int32) : Nat → Int32 := upn N 0 (mPa3 N) f
def mOff (x y : Int32) : Int32 := if x < y then y - x else x - y
def mTo1 (xs ys : Nat → Int32) (i j : Nat) (f : Nat → Int32) : Nat → Int32 := mIs i j (mOff (xs i) (xs j) + mOff (ys i) (ys j)) f
def mTo2 (N : Nat) (xs ys : Nat → Int32) (i : Nat) (f : Nat → Int32) : Nat → Int32 := upn (N - (i + 1)) (i + 1) (mTo1 xs ys i) f
def mTo (N : Nat) (xs ys : Nat → Int32) (f : Nat → Int32) : Nat → Int32 := upn N 0 (mTo2 N xs ys) f
abbrev strOk (N : Nat) (k : Int32) (f : Nat → Int32) : Prop := ∀ i, i < N → ∀ j, j < N → i < j → k * f (6 * i + j) ≤ nI 999
def mSt1 (k : Int32) (i j : Nat) (f : Nat → Int32) : Nat → Int32 := mIs i j (k * f (6 * i + j)) f
def mSt2 (N : Nat) (k : Int32) (i : Nat) (f : Nat → Int32) : Nat → Int32 := upn (N - (i + 1)) (i + 1) (mSt1 k i) f
def mSt (N : Nat) (k : Int32) (f : Nat → Int32) : Nat → Int32 := upn N 0 (mSt2 N k) f
/-- the rows behind a change of far to f: ahead(), f, done() -/
def mDe (N D : Nat) (z : Nat → Int32) (a : Nat → Nat → Int32) (f : Nat → Int32) : Nat × (Nat → Nat → Int32) := mDo N D (va_up z 18 (nI N)) (va_up (mAh a) 85 f)
section MODEL3
variable {G : GT} {σ : Sto} {N D T : Nat} {z : Nat → Int32} {a : Nat → Nat → Int32} {tb : Nat → Int64}
theorem m_points (hN : 2 ≤ N) (hN6 : N ≤ 6) {x : Int32} : ConP G mX10_points 2 [.ref (adr G 84), .int x] (putM G σ N D T z a tb) (fun v σ' => (¬ (2 ≤ x.toInt ∧ x.toInt ≤ 6) ∧ rI (-1) (putM G σ N D T z a tb) v σ') ∨ ∃ P, x = nI P ∧ 2 ≤ P ∧ P ≤ 6 ∧ rI (nI N) (putM G σ P 0 T z (va_up (va_up (va_up a 85 (zf 36 (a 85))) 86 (zf 6 (a 86))) 87 (zf 6 (a 87))) tb) v σ') := by
  refine ConP.of rfl (Nat.le_of_ble_eq_true rfl) ?_
  refine k_iload_n (pc' := 1) dX10_points_0 rfl ?_
  refine k_i2l (pc' := 2) dX10_points_1 rfl ?_
  refine k_ldc2 (pc' := 5)  dX10_points_2 cl_RX10_103 ?_
  refine k_ldc2 (pc' := 8)  dX10_points_5 cl_RX10_105 ?_
  refine p_sI (ν := mX10_in) (pc' := 11) dX10_points_8 ml_RX10_77 mo_X10_in ms_X10_in (Nat.le_of_ble_eq_true rfl) rfl rfl (Nat.le_of_ble_eq_true rfl) (by decide) (c_in) ?_
  refine k_if_ne (tgt := 16) (pc' := 14) dX10_points_11 rfl (fun c_11 => ?_) (fun c_11 => ?_)
  · rw [bI_ne, i2l_e, show (2 : Int64).toInt = 2 from rfl, show (6 : Int64).toInt = 6 from rfl] at c_11
    obtain ⟨P, hP, hx⟩ := nI_in0 (x := x) (n := 7) (by omega) (by omega) (by decide)
    subst hx
    rw [nI_e (by omega)] at c_11
    refine k_aload_n (pc' := 17) dX10_points_16 rfl ?_
    refine p_get (pc' := 20) clX10 (Nat.le_of_ble_eq_true rfl) fl_RX10_9 dX10_points_17 (by first | assumption | decide | omega) (by first | rfl | assumption) rfl ?_
    refine k_istore_n (pc' := 21) dX10_points_20 (Nat.le_of_ble_eq_true rfl) rfl ?_
    refine k_aload_n (pc' := 22) dX10_points_21 rfl ?_
    refine k_iload_n (pc' := 23) dX10_points_22 rfl ?_
    refine p_putI (pc' := 26) clX10 (Nat.le_of_ble_eq_true rfl) fl_RX10_9 dX10_points_23 rfl (Or.inl rfl) (by first | assumption | decide | omega) (by first | rfl | assumption) (Nat.le_of_ble_eq_true rfl) (by exact pMz0) ?_
    refine k_iconst (pc' := 27) (v := nI 0) dX10_points_26 rfl ?_
    refine k_istore_n (pc' := 28) dX10_points_27 (Nat.le_of_ble_eq_true rfl) rfl ?_
    have k1 := loopU (fun p f => OkP G mX10_points 2 (fun v σ' => (¬ (2 ≤ (nI P).toInt ∧ (nI P).toInt ≤ 6) ∧ rI (-1) (putM G σ N D T z a tb) v σ') ∨ ∃ P', nI P = nI P' ∧ 2 ≤ P' ∧ P' ≤ 6 ∧ rI (nI N) (putM G σ P' 0 T z (va_up (va_up (va_up a 85 (zf 36 (a 85))) 86 (zf 6 (a 86))) 87 (zf 6 (a 87))) tb) v σ') 28 [some (.ref (adr G 84)), some (.int (nI P)), some (.int (nI N)), some (.int (nI p))] [] (putM G σ P D T z (va_up a 85 f) tb)) (fun p f => upd f p (nI 0)) 36 0 36 (a 85) (by omega) ?_ ?_
    · rw [up_id rfl] at k1
      exact k1
    · intro p f _ hp ih
      refine k_iload_n (pc' := 29) dX10_points_28 rfl ?_
      refine k_bipush (pc' := 31) (v := nI 36) dX10_points_29 rfl ?_
      refine k_icmp_ge (tgt := 47) (pc' := 34) dX10_points_31 rfl (fun zz_ => absurd zz_ (nI_ge (by omega) (by omega))) (fun _ => ?_)
      refine k_aload_n (pc' := 35) dX10_points_34 rfl ?_
      refine p_get (pc' := 38) clX10 (Nat.le_of_ble_eq_true rfl) fl_RX10_15 dX10_points_35 (by first | assumption | decide | omega) (by first | rfl | assumption) rfl ?_
      refine k_iload_n (pc' := 39) dX10_points_38 rfl ?_
      refine k_iconst (pc' := 40) (v := nI 0) dX10_points_39 rfl ?_
      refine p_iastN (pc' := 41) (σ1 := putM G σ P D T z (va_up a 85 (upd f p (nI 0))) tb) dX10_points_40 (by first | assumption | decide | omega) (by first | rfl | assumption) (by first | decide | omega) (by first | omega | (simp only [mL85, mL86, mL87, mL88, mL89, mL90, mL91, mL92, mL93, mL94, mL95, mL96, mL97, mL98, mL100, mL101, mL102, mL103]; omega)) (by exact (by rw [pMa (by decide), up_up]; rfl)) ?_
      refine k_iinc (pc' := 44) (v := nI (p + 1)) dX10_points_41 rfl (nI_inc _) (Nat.le_of_ble_eq_true rfl) rfl ?_
      refine k_goto (tgt := 28) dX10_points_44 rfl ?_
      exact ih
    · refine k_iload_n (pc' := 29) dX10_points_28 rfl ?_
      refine k_bipush (pc' := 31) (v := nI 36) dX10_points_29 rfl ?_
      refine k_icmp_ge (tgt := 47) (pc' := 34) dX10_points_31 rfl (fun _ => ?_) (fun zz_ => absurd (nI_le (by omega) (by omega)) zz_)
      refine k_iconst (pc' := 48) (v := nI 0) dX10_points_47 rfl ?_
      refine k_istore_n (pc' := 49) dX10_points_48 (Nat.le_of_ble_eq_true rfl) rfl ?_
      have e : ∀ n k (x y : Nat → Int32), upn n k (fun p (f : (Nat → Int32) × (Nat → Int32)) => (upd f.1 p (nI 0), upd f.2 p (nI 0))) (x, y) = (upn n k (fun i f => upd f i (nI 0)) x, upn n k (fun i f => upd f i (nI 0)) y) := by
        intro n
        induction n with
        | zero => intros; rfl
        | succ n ih => intro k a b; exact ih (k + 1) _ _
      have key := loopU (fun p (f : (Nat → Int32) × (Nat → Int32)) => OkP G mX10_points 2 (fun v σ' => (¬ (2 ≤ (nI P).toInt ∧ (nI P).toInt ≤ 6) ∧ rI (-1) (putM G σ N D T z a tb) v σ') ∨ ∃ P', nI P = nI P' ∧ 2 ≤ P' ∧ P' ≤ 6 ∧ rI (nI N) (putM G σ P' 0 T z (va_up (va_up (va_up a 85 (zf 36 (a 85))) 86 (zf 6 (a 86))) 87 (zf 6 (a 87))) tb) v σ') 49 [some (.ref (adr G 84)), some (.int (nI P)), some (.int (nI N)), some (.int (nI p))] [] (putM G σ P D T z (va_up (va_up (va_up a 85 (zf 36 (a 85))) 86 f.1) 87 f.2) tb)) (fun p f => (upd f.1 p (nI 0), upd f.2 p (nI 0))) 6 0 6 (a 86, a 87) (by omega) ?_ ?_
      · have e2 : va_up (va_up (va_up a 85 (zf 36 (a 85))) 86 (a 86)) 87 (a 87) = va_up a 85 (zf 36 (a 85)) := by rw [up_id (k := 86) (by rw [up_n (by decide)]), up_id (k := 87) (by rw [up_n (by decide)])]
        dsimp only at key
        rw [e2] at key
        exact key
      · intro p f _ hp ih
        refine k_iload_n (pc' := 50) dX10_points_49 rfl ?_
        refine k_bipush (pc' := 52) (v := nI 6) dX10_points_50 rfl ?_
        refine k_icmp_ge (tgt := 75) (pc' := 55) dX10_points_52 rfl (fun zz_ => absurd zz_ (nI_ge (by omega) (by omega))) (fun _ => ?_)
        refine k_aload_n (pc' := 56) dX10_points_55 rfl ?_
        refine p_get (pc' := 59) clX10 (Nat.le_of_ble_eq_true rfl) fl_RX10_19 dX10_points_56 (by first | assumption | decide | omega) (by first | rfl | assumption) rfl ?_
        refine k_iload_n (pc' := 60) dX10_points_59 rfl ?_
        refine k_iconst (pc' := 61) (v := nI 0) dX10_points_60 rfl ?_
        refine p_iastN (pc' := 62) (σ1 := putM G σ P D T z (va_up (va_up (va_up a 85 (zf 36 (a 85))) 86 (upd f.1 p (nI 0))) 87 f.2) tb) dX10_points_61 (by first | assumption | decide | omega) (by first | rfl | assumption) (by first | decide | omega) (by first | omega | (simp only [mL85, mL86, mL87, mL88, mL89, mL90, mL91, mL92, mL93, mL94, mL95, mL96, mL97, mL98, mL100, mL101, mL102, mL103]; omega)) (by exact (by rw [pMa (by decide), up_c (by decide), up_up]; rfl)) ?_
        refine k_aload_n (pc' := 63) dX10_points_62 rfl ?_
        refine p_get (pc' := 66) clX10 (Nat.le_of_ble_eq_true rfl) fl_RX10_22 dX10_points_63 (by first | assumption | decide | omega) (by first | rfl | assumption) rfl ?_
        refine k_iload_n (pc' := 67) dX10_points_66 rfl ?_
        refine k_iconst (pc' := 68) (v := nI 0) dX10_points_67 rfl ?_
        refine p_iastN (pc' := 69) (σ1 := putM G σ P D T z (va_up (va_up (va_up a 85 (zf 36 (a 85))) 86 (upd f.1 p (nI 0))) 87 (upd f.2 p (nI 0))) tb) dX10_points_68 (by first | assumption | decide | omega) (by first | rfl | assumption) (by first | decide | omega) (by first | omega | (simp only [mL85, mL86, mL87, mL88, mL89, mL90, mL91, mL92, mL93, mL94, mL95, mL96, mL97, mL98, mL100, mL101, mL102, mL103]; omega)) (by exact (by rw [pMa (by decide), up_up]; rfl)) ?_
        refine k_iinc (pc' := 72) (v := nI (p + 1)) dX10_points_69 rfl (nI_inc _) (Nat.le_of_ble_eq_true rfl) rfl ?_
        refine k_goto (tgt := 49) dX10_points_72 rfl ?_
        exact ih
      · rw [e]
        refine k_iload_n (pc' := 50) dX10_points_49 rfl ?_
        refine k_bipush (pc' := 52) (v := nI 6) dX10_points_50 rfl ?_
        refine k_icmp_ge (tgt := 75) (pc' := 55) dX10_points_52 rfl (fun _ => ?_) (fun zz_ => absurd (nI_le (by omega) (by omega)) zz_)
        refine k_aload_n (pc' := 76) dX10_points_75 rfl ?_
        refine k_iconst (pc' := 77) (v := nI 0) dX10_points_76 rfl ?_
        refine p_putI (pc' := 80) clX10 (Nat.le_of_ble_eq_true rfl) fl_RX10_100 dX10_points_77 rfl (Or.inl rfl) (by first | assumption | decide | omega) (by first | rfl | assumption) (Nat.le_of_ble_eq_true rfl) (by exact pMz4) ?_
        refine k_iload_n (pc' := 81) dX10_points_80 rfl ?_
        refine p_ireturn dX10_points_81 rfl ?_
        exact Or.inr ⟨P, rfl, by omega, by omega, rfl, rfl⟩
  · rw [bI_eq, i2l_e, show (2 : Int64).toInt = 2 from rfl, show (6 : Int64).toInt = 6 from rfl] at c_11
    refine k_iconst (pc' := 15) (v := -1) dX10_points_14 rfl ?_
    refine p_ireturn dX10_points_15 rfl ?_
    exact Or.inl ⟨c_11, rfl, rfl⟩
theorem m_put (hN : 2 ≤ N) (hN6 : N ≤ 6) (hD : D ≤ 8) {x y w : Int32} : ConP G mX10_put 4 [.ref (adr G 84), .int x, .int y, .int w] (putM G σ N D T z a tb) (fun v σ' => (¬ ((0 ≤ x.toInt ∧ x.toInt < N ∧ 0 ≤ y.toInt ∧ y.toInt < N ∧ x ≠ y) ∧ (0 ≤ w.toInt ∧ w.toInt ≤ 999)) ∧ rI (-1) (putM G σ N D T z a tb) v σ') ∨ ∃ i j, x = nI i ∧ y = nI j ∧ i < N ∧ j < N ∧ i ≠ j ∧ (0 ≤ w.toInt ∧ w.toInt ≤ 999) ∧ rI (a 85 (6 * i + j)) (putM G σ N (mDe N D z a (mIs i j w (a 85))).1 T (va_up z 18 (nI N)) (mDe N D z a (mIs i j w (a 85))).2 tb) v σ') := by
  refine ConP.of rfl (Nat.le_of_ble_eq_true rfl) ?_
  refine k_aload_n (pc' := 1) dX10_put_0 rfl ?_
  refine k_iload_n (pc' := 2) dX10_put_1 rfl ?_
  refine k_iload_n (pc' := 3) dX10_put_2 rfl ?_
  refine p_vI (ν := mX10_isTwo) (pc' := 6) dX10_put_3 ml_RX10_107 mo_X10_isTwo mv_X10_isTwo clX10 (Nat.le_of_ble_eq_true rfl) rfl rfl (Nat.le_of_ble_eq_true rfl) (by first | assumption | decide | omega) (by first | rfl | assumption) (by decide) (c_isTwo hN hN6) ?_
  refine k_if_eq (tgt := 21) (pc' := 9) dX10_put_6 rfl (fun c_6 => ?_) (fun c_6 => ?_)
  · rw [bI_eq] at c_6
    refine k_iconst (pc' := 22) (v := -1) dX10_put_21 rfl ?_
    refine p_ireturn dX10_put_22 rfl ?_
    exact Or.inl ⟨fun q => c_6 q.1, rfl, rfl⟩
  rw [bI_ne] at c_6
  refine k_iload_n (pc' := 10) dX10_put_9 rfl ?_
  refine k_i2l (pc' := 11) dX10_put_10 rfl ?_
  refine k_lconst (pc' := 12) (v := 0) dX10_put_11 rfl ?_
  refine k_ldc2 (pc' := 15)  dX10_put_12 cl_RX10_110 ?_
  refine p_sI (ν := mX10_in) (pc' := 18) dX10_put_15 ml_RX10_77 mo_X10_in ms_X10_in (Nat.le_of_ble_eq_true rfl) rfl rfl (Nat.le_of_ble_eq_true rfl) (by decide) (c_in) ?_
  refine k_if_ne (tgt := 23) (pc' := 21) dX10_put_18 rfl (fun c_18 => ?_) (fun c_18 => ?_)
  · rw [bI_ne, i2l_e, show (0 : Int64).toInt = 0 from rfl, show (999 : Int64).toInt = 999 from rfl] at c_18
    obtain ⟨i, hi, hx⟩ := nI_in0 c_6.1 c_6.2.1 (by omega)
    obtain ⟨j, hj, hy⟩ := nI_in0 c_6.2.2.1 c_6.2.2.2.1 (by omega)
    subst hx; subst hy
    have hij : i ≠ j := fun q => c_6.2.2.2.2 (by rw [q])
    refine k_aload_n (pc' := 24) dX10_put_23 rfl ?_
    refine p_get (pc' := 27) clX10 (Nat.le_of_ble_eq_true rfl) fl_RX10_15 dX10_put_24 (by first | assumption | decide | omega) (by first | rfl | assumption) rfl ?_
    refine k_bipush (pc' := 29) (v := nI 6) dX10_put_27 rfl ?_
    refine k_iload_n (pc' := 30) dX10_put_29 rfl ?_
    refine k_imul (pc' := 31) dX10_put_30 (by first | exact pk_mul _ _ | rfl) ?_
    refine k_iload_n (pc' := 32) dX10_put_31 rfl ?_
    refine k_iadd (pc' := 33) dX10_put_32 (by first | exact nI_add _ _ | rfl) ?_
    refine p_ialdN (pc' := 34) dX10_put_33 (by first | assumption | decide | omega) (by first | rfl | assumption) (by first | decide | omega) (by first | omega | (simp only [mL85, mL86, mL87, mL88, mL89, mL90, mL91, mL92, mL93, mL94, mL95, mL96, mL97, mL98, mL100, mL101, mL102, mL103]; omega)) ?_
    refine k_istore (pc' := 36) dX10_put_34 (Nat.le_of_ble_eq_true rfl) rfl ?_
    refine k_aload_n (pc' := 37) dX10_put_36 rfl ?_
    refine p_vV (ν := mX10_ahead) (pc' := 40) dX10_put_37 ml_RX10_112 mo_X10_ahead mv_X10_ahead clX10 (Nat.le_of_ble_eq_true rfl) rfl rfl (Nat.le_of_ble_eq_true rfl) (by first | assumption | decide | omega) (by first | rfl | assumption) (by decide) (c_ahead) ?_
    refine k_aload_n (pc' := 41) dX10_put_40 rfl ?_
    refine k_iload_n (pc' := 42) dX10_put_41 rfl ?_
    refine k_iload_n (pc' := 43) dX10_put_42 rfl ?_
    refine k_iload_n (pc' := 44) dX10_put_43 rfl ?_
    refine p_vV (ν := mX10_is) (pc' := 47) dX10_put_44 ml_RX10_115 mo_X10_is mv_X10_is clX10 (Nat.le_of_ble_eq_true rfl) rfl rfl (Nat.le_of_ble_eq_true rfl) (by first | assumption | decide | omega) (by first | rfl | assumption) (by decide) (c_is (by omega) (by omega)) ?_
    refine k_aload_n (pc' := 48) dX10_put_47 rfl ?_
    refine p_vI (ν := mX10_done) (pc' := 51) dX10_put_48 ml_RX10_119 mo_X10_done mv_X10_done clX10 (Nat.le_of_ble_eq_true rfl) rfl rfl (Nat.le_of_ble_eq_true rfl) (by first | assumption | decide | omega) (by first | rfl | assumption) (by decide) (c_done hN hN6 hD) ?_
    refine k_pop (pc' := 52) dX10_put_51 rfl ?_
    refine k_iload (pc' := 54) dX10_put_52 rfl ?_
    refine p_ireturn dX10_put_54 rfl ?_
    exact Or.inr ⟨i, j, rfl, rfl, hi, hj, hij, c_18, rfl, rfl⟩
  · rw [bI_eq, i2l_e, show (0 : Int64).toInt = 0 from rfl, show (999 : Int64).toInt = 999 from rfl] at c_18
    refine k_iconst (pc' := 22) (v := -1) dX10_put_21 rfl ?_
    refine p_ireturn dX10_put_22 rfl ?_
    exact Or.inl ⟨fun q => c_18 q.2, rfl, rfl⟩
theorem m_at (hN : 2 ≤ N) (hN6 : N ≤ 6) {x y : Int32} : ConP G mX10_at 4 [.ref (adr G 84), .int x, .int y] (putM G σ N D T z a tb) (fun v σ' => (¬ (0 ≤ x.toInt ∧ x.toInt < N ∧ 0 ≤ y.toInt ∧ y.toInt < N ∧ x ≠ y) ∧ rI (-1) (putM G σ N D T z a tb) v σ') ∨ ∃ i j, x = nI i ∧ y = nI j ∧ i < N ∧ j < N ∧ i ≠ j ∧ rI (a 85 (6 * i + j)) (putM G σ N D T z a tb) v σ') := by
  refine ConP.of rfl (Nat.le_of_ble_eq_true rfl) ?_
  refine k_aload_n (pc' := 1) dX10_at_0 rfl ?_
  refine k_iload_n (pc' := 2) dX10_at_1 rfl ?_
  refine k_iload_n (pc' := 3) dX10_at_2 rfl ?_
  refine p_vI (ν := mX10_isTwo) (pc' := 6) dX10_at_3 ml_RX10_107 mo_X10_isTwo mv_X10_isTwo clX10 (Nat.le_of_ble_eq_true rfl) rfl rfl (Nat.le_of_ble_eq_true rfl) (by first | assumption | decide | omega) (by first | rfl | assumption) (by decide) (c_isTwo hN hN6) ?_
  refine k_if_eq (tgt := 23) (pc' := 9) dX10_at_6 rfl (fun c_6 => ?_) (fun c_6 => ?_)
  · rw [bI_eq] at c_6
    refine k_iconst (pc' := 24) (v := -1) dX10_at_23 rfl ?_
    refine p_ireturn dX10_at_24 rfl ?_
    exact Or.inl ⟨c_6, rfl, rfl⟩
  rw [bI_ne] at c_6
  obtain ⟨i, hi, hx⟩ := nI_in0 c_6.1 c_6.2.1 (by omega)
  obtain ⟨j, hj, hy⟩ := nI_in0 c_6.2.2.1 c_6.2.2.2.1 (by omega)
  subst hx; subst hy
  have hij : i ≠ j := fun q => c_6.2.2.2.2 (by rw [q])
  refine k_aload_n (pc' := 10) dX10_at_9 rfl ?_
  refine p_get (pc' := 13) clX10 (Nat.le_of_ble_eq_true rfl) fl_RX10_15 dX10_at_10 (by first | assumption | decide | omega) (by first | rfl | assumption) rfl ?_
  refine k_bipush (pc' := 15) (v := nI 6) dX10_at_13 rfl ?_
  refine k_iload_n (pc' := 16) dX10_at_15 rfl ?_
  refine k_imul (pc' := 17) dX10_at_16 (by first | exact pk_mul _ _ | rfl) ?_
  refine k_iload_n (pc' := 18) dX10_at_17 rfl ?_
  refine k_iadd (pc' := 19) dX10_at_18 (by first | exact nI_add _ _ | rfl) ?_
  refine p_ialdN (pc' := 20) dX10_at_19 (by first | assumption | decide | omega) (by first | rfl | assumption) (by first | decide | omega) (by first | omega | (simp only [mL85, mL86, mL87, mL88, mL89, mL90, mL91, mL92, mL93, mL94, mL95, mL96, mL97, mL98, mL100, mL101, mL102, mL103]; omega)) ?_
  refine k_goto (tgt := 24) dX10_at_20 rfl ?_
  refine p_ireturn dX10_at_24 rfl ?_
  exact Or.inr ⟨i, j, rfl, rfl, hi, hj, hij, rfl, rfl⟩
theorem m_place (hN : 2 ≤ N) (hN6 : N ≤ 6) {x y w : Int32} : ConP G mX10_place 3 [.ref (adr G 84), .int x, .int y, .int w] (putM G σ N D T z a tb) (fun v σ' => (¬ ((0 ≤ x.toInt ∧ x.toInt < N) ∧ (0 ≤ y.toInt ∧ y.toInt ≤ 99) ∧ (0 ≤ w.toInt ∧ w.toInt ≤ 99)) ∧ rI (-1) (putM G σ N D T z a tb) v σ') ∨ ∃ i, x = nI i ∧ i < N ∧ (0 ≤ y.toInt ∧ y.toInt ≤ 99) ∧ (0 ≤ w.toInt ∧ w.toInt ≤ 99) ∧ rI (nI 100 * a 86 i + a 87 i) (putM G σ N D T z (va_up (va_up a 86 (upd (a 86) i y)) 87 (upd (a 87) i w)) tb) v σ') := by
  refine ConP.of rfl (Nat.le_of_ble_eq_true rfl) ?_
  refine k_aload_n (pc' := 1) dX10_place_0 rfl ?_
  refine k_iload_n (pc' := 2) dX10_place_1 rfl ?_
  refine p_vI (ν := mX10_isPoint) (pc' := 5) dX10_place_2 ml_RX10_81 mo_X10_isPoint mv_X10_isPoint clX10 (Nat.le_of_ble_eq_true rfl) rfl rfl (Nat.le_of_ble_eq_true rfl) (by first | assumption | decide | omega) (by first | rfl | assumption) (by decide) (c_isPoint hN hN6) ?_
  refine k_if_eq (tgt := 32) (pc' := 8) dX10_place_5 rfl (fun c_5 => ?_) (fun c_5 => ?_)
  · rw [bI_eq] at c_5
    refine k_iconst (pc' := 33) (v := -1) dX10_place_32 rfl ?_
    refine p_ireturn dX10_place_33 rfl ?_
    exact Or.inl ⟨fun q => c_5 q.1, rfl, rfl⟩
  rw [bI_ne] at c_5
  refine k_iload_n (pc' := 9) dX10_place_8 rfl ?_
  refine k_i2l (pc' := 10) dX10_place_9 rfl ?_
  refine k_lconst (pc' := 11) (v := 0) dX10_place_10 rfl ?_
  refine k_ldc2 (pc' := 14)  dX10_place_11 cl_RX10_127 ?_
  refine p_sI (ν := mX10_in) (pc' := 17) dX10_place_14 ml_RX10_77 mo_X10_in ms_X10_in (Nat.le_of_ble_eq_true rfl) rfl rfl (Nat.le_of_ble_eq_true rfl) (by decide) (c_in) ?_
  refine k_if_eq (tgt := 32) (pc' := 20) dX10_place_17 rfl (fun c_17 => ?_) (fun c_17 => ?_)
  · rw [bI_eq, i2l_e, show (0 : Int64).toInt = 0 from rfl, show (99 : Int64).toInt = 99 from rfl] at c_17
    refine k_iconst (pc' := 33) (v := -1) dX10_place_32 rfl ?_
    refine p_ireturn dX10_place_33 rfl ?_
    exact Or.inl ⟨fun q => c_17 q.2.1, rfl, rfl⟩
  rw [bI_ne, i2l_e, show (0 : Int64).toInt = 0 from rfl, show (99 : Int64).toInt = 99 from rfl] at c_17
  refine k_iload_n (pc' := 21) dX10_place_20 rfl ?_
  refine k_i2l (pc' := 22) dX10_place_21 rfl ?_
  refine k_lconst (pc' := 23) (v := 0) dX10_place_22 rfl ?_
  refine k_ldc2 (pc' := 26)  dX10_place_23 cl_RX10_127 ?_
  refine p_sI (ν := mX10_in) (pc' := 29) dX10_place_26 ml_RX10_77 mo_X10_in ms_X10_in (Nat.le_of_ble_eq_true rfl) rfl rfl (Nat.le_of_ble_eq_true rfl) (by decide) (c_in) ?_
  refine k_if_ne (tgt := 34) (pc' := 32) dX10_place_29 rfl (fun c_29 => ?_) (fun c_29 => ?_)
  · rw [bI_ne, i2l_e, show (0 : Int64).toInt = 0 from rfl, show (99 : Int64).toInt = 99 from rfl] at c_29
    obtain ⟨i, hi, hx⟩ := nI_in0 c_5.1 c_5.2 (by omega)
    subst hx
    refine k_bipush (pc' := 36) (v := nI 100) dX10_place_34 rfl ?_
    refine k_aload_n (pc' := 37) dX10_place_36 rfl ?_
    refine p_get (pc' := 40) clX10 (Nat.le_of_ble_eq_true rfl) fl_RX10_19 dX10_place_37 (by first | assumption | decide | omega) (by first | rfl | assumption) rfl ?_
    refine k_iload_n (pc' := 41) dX10_place_40 rfl ?_
    refine p_ialdN (pc' := 42) dX10_place_41 (by first | assumption | decide | omega) (by first | rfl | assumption) (by first | decide | omega) (by first | omega | (simp only [mL85, mL86, mL87, mL88, mL89, mL90, mL91, mL92, mL93, mL94, mL95, mL96, mL97, mL98, mL100, mL101, mL102, mL103]; omega)) ?_
    refine k_imul (pc' := 43) (v := nI 100 * a 86 i) dX10_place_42 rfl ?_
    refine k_aload_n (pc' := 44) dX10_place_43 rfl ?_
    refine p_get (pc' := 47) clX10 (Nat.le_of_ble_eq_true rfl) fl_RX10_22 dX10_place_44 (by first | assumption | decide | omega) (by first | rfl | assumption) rfl ?_
    refine k_iload_n (pc' := 48) dX10_place_47 rfl ?_
    refine p_ialdN (pc' := 49) dX10_place_48 (by first | assumption | decide | omega) (by first | rfl | assumption) (by first | decide | omega) (by first | omega | (simp only [mL85, mL86, mL87, mL88, mL89, mL90, mL91, mL92, mL93, mL94, mL95, mL96, mL97, mL98, mL100, mL101, mL102, mL103]; omega)) ?_
    refine k_iadd (pc' := 50) (v := nI 100 * a 86 i + a 87 i) dX10_place_49 rfl ?_
    refine k_istore (pc' := 52) dX10_place_50 (Nat.le_of_ble_eq_true rfl) rfl ?_
    refine k_aload_n (pc' := 53) dX10_place_52 rfl ?_
    refine p_get (pc' := 56) clX10 (Nat.le_of_ble_eq_true rfl) fl_RX10_19 dX10_place_53 (by first | assumption | decide | omega) (by first | rfl | assumption) rfl ?_
    refine k_iload_n (pc' := 57) dX10_place_56 rfl ?_
    refine k_iload_n (pc' := 58) dX10_place_57 rfl ?_
    refine p_iastN (pc' := 59) dX10_place_58 (by first | assumption | decide | omega) (by first | rfl | assumption) (by first | decide | omega) (by first | omega | (simp only [mL85, mL86, mL87, mL88, mL89, mL90, mL91, mL92, mL93, mL94, mL95, mL96, mL97, mL98, mL100, mL101, mL102, mL103]; omega)) (by exact pMa (by decide)) ?_
    refine k_aload_n (pc' := 60) dX10_place_59 rfl ?_
    refine p_get (pc' := 63) clX10 (Nat.le_of_ble_eq_true rfl) fl_RX10_22 dX10_place_60 (by first | assumption | decide | omega) (by first | rfl | assumption) rfl ?_
    refine k_iload_n (pc' := 64) dX10_place_63 rfl ?_
    refine k_iload_n (pc' := 65) dX10_place_64 rfl ?_
    refine p_iastN (pc' := 66) dX10_place_65 (by first | assumption | decide | omega) (by first | rfl | assumption) (by first | decide | omega) (by first | omega | (simp only [mL85, mL86, mL87, mL88, mL89, mL90, mL91, mL92, mL93, mL94, mL95, mL96, mL97, mL98, mL100, mL101, mL102, mL103]; omega)) (by exact pMa (by decide)) ?_
    refine k_iload (pc' := 68) dX10_place_66 rfl ?_
    refine p_ireturn dX10_place_68 rfl ?_
    exact Or.inr ⟨i, rfl, hi, c_17, c_29, rfl, rfl⟩
  · rw [bI_eq, i2l_e, show (0 : Int64).toInt = 0 from rfl, show (99 : Int64).toInt = 99 from rfl] at c_29
    refine k_iconst (pc' := 33) (v := -1) dX10_place_32 rfl ?_
    refine p_ireturn dX10_place_33 rfl ?_
    exact Or.inl ⟨fun q => c_29 q.2.2, rfl, rfl⟩
theorem m_paths (hN : 2 ≤ N) (hN6 : N ≤ 6) (hD : D ≤ 8) : ConP G mX10_paths 3 [.ref (adr G 84)] (putM G σ N D T z a tb) (rI (mCh N (mPa N (a 85)) (mAh a 97)) (putM G σ N (mDe N D z a (mPa N (a 85))).1 T (va_up z 18 (nI N)) (mDe N D z a (mPa N (a 85))).2 tb)) := by
  refine ConP.of rfl (Nat.le_of_ble_eq_true rfl) ?_
  refine k_aload_n (pc' := 1) dX10_paths_0 rfl ?_
  refine p_vV (ν := mX10_ahead) (pc' := 4) dX10_paths_1 ml_RX10_112 mo_X10_ahead mv_X10_ahead clX10 (Nat.le_of_ble_eq_true rfl) rfl rfl (Nat.le_of_ble_eq_true rfl) (by first | assumption | decide | omega) (by first | rfl | assumption) (by decide) (c_ahead) ?_
  refine k_iconst (pc' := 5) (v := nI 0) dX10_paths_4 rfl ?_
  refine k_istore_n (pc' := 6) dX10_paths_5 (Nat.le_of_ble_eq_true rfl) rfl ?_
  have key := loopU (fun k f => ∀ y1 y2 y3, OkP G mX10_paths 3 (rI (mCh N (mPa N (a 85)) (mAh a 97)) (putM G σ N (mDe N D z a (mPa N (a 85))).1 T (va_up z 18 (nI N)) (mDe N D z a (mPa N (a 85))).2 tb)) 6 [some (.ref (adr G 84)), some (.int (nI k)), y1, y2, y3] [] (putM G σ N D T (va_up z 18 (nI N)) (va_up (mAh a) 85 f) tb)) (mPa3 N) N 0 N (a 85) (by omega) ?_ ?_ none none none
  · have e : va_up (mAh a) 85 (a 85) = mAh a := up_id (up_n (by decide))
    rw [e] at key
    exact key
  · intro k f _ hk ih y1 y2 y3
    refine k_iload_n (pc' := 7) dX10_paths_6 rfl ?_
    refine k_aload_n (pc' := 8) dX10_paths_7 rfl ?_
    refine p_get (pc' := 11) clX10 (Nat.le_of_ble_eq_true rfl) fl_RX10_9 dX10_paths_8 (by first | assumption | decide | omega) (by first | rfl | assumption) rfl ?_
    refine k_icmp_ge (tgt := 106) (pc' := 14) dX10_paths_11 rfl (fun zz_ => absurd zz_ (nI_ge (by omega) (by omega))) (fun _ => ?_)
    refine k_iconst (pc' := 15) (v := nI 0) dX10_paths_14 rfl ?_
    refine k_istore_n (pc' := 16) dX10_paths_15 (Nat.le_of_ble_eq_true rfl) rfl ?_
    refine loopU (fun i f => ∀ y2 y3, OkP G mX10_paths 3 (rI (mCh N (mPa N (a 85)) (mAh a 97)) (putM G σ N (mDe N D z a (mPa N (a 85))).1 T (va_up z 18 (nI N)) (mDe N D z a (mPa N (a 85))).2 tb)) 16 [some (.ref (adr G 84)), some (.int (nI k)), some (.int (nI i)), y2, y3] [] (putM G σ N D T (va_up z 18 (nI N)) (va_up (mAh a) 85 f) tb)) (mPa2 N k) N 0 N f (by omega) ?_ ?_ y2 y3
    · intro i f _ hi ih2 y2 y3
      refine k_iload_n (pc' := 17) dX10_paths_16 rfl ?_
      refine k_aload_n (pc' := 18) dX10_paths_17 rfl ?_
      refine p_get (pc' := 21) clX10 (Nat.le_of_ble_eq_true rfl) fl_RX10_9 dX10_paths_18 (by first | assumption | decide | omega) (by first | rfl | assumption) rfl ?_
      refine k_icmp_ge (tgt := 100) (pc' := 24) dX10_paths_21 rfl (fun zz_ => absurd zz_ (nI_ge (by omega) (by omega))) (fun _ => ?_)
      refine k_iconst (pc' := 25) (v := nI 0) dX10_paths_24 rfl ?_
      refine k_istore_n (pc' := 26) dX10_paths_25 (Nat.le_of_ble_eq_true rfl) rfl ?_
      refine loopU (fun j f => ∀ y3, OkP G mX10_paths 3 (rI (mCh N (mPa N (a 85)) (mAh a 97)) (putM G σ N (mDe N D z a (mPa N (a 85))).1 T (va_up z 18 (nI N)) (mDe N D z a (mPa N (a 85))).2 tb)) 26 [some (.ref (adr G 84)), some (.int (nI k)), some (.int (nI i)), some (.int (nI j)), y3] [] (putM G σ N D T (va_up z 18 (nI N)) (va_up (mAh a) 85 f) tb)) (mPa1 k i) N 0 N f (by omega) ?_ ?_ y3
      · intro j f _ hj ih3 y3
        refine k_iload_n (pc' := 27) dX10_paths_26 rfl ?_
        refine k_aload_n (pc' := 28) dX10_paths_27 rfl ?_
        refine p_get (pc' := 31) clX10 (Nat.le_of_ble_eq_true rfl) fl_RX10_9 dX10_paths_28 (by first | assumption | decide | omega) (by first | rfl | assumption) rfl ?_
        refine k_icmp_ge (tgt := 94) (pc' := 34) dX10_paths_31 rfl (fun zz_ => absurd zz_ (nI_ge (by omega) (by omega))) (fun _ => ?_)
        refine k_aload_n (pc' := 35) dX10_paths_34 rfl ?_
        refine p_get (pc' := 38) clX10 (Nat.le_of_ble_eq_true rfl) fl_RX10_15 dX10_paths_35 (by first | assumption | decide | omega) (by first | rfl | assumption) rfl ?_
        refine k_bipush (pc' := 40) (v := nI 6) dX10_paths_38 rfl ?_
        refine k_iload_n (pc' := 41) dX10_paths_40 rfl ?_
        refine k_imul (pc' := 42) dX10_paths_41 (by first | exact pk_mul _ _ | rfl) ?_
        refine k_iload_n (pc' := 43) dX10_paths_42 rfl ?_
        refine k_iadd (pc' := 44) dX10_paths_43 (by first | exact nI_add _ _ | rfl) ?_
        refine p_ialdN (pc' := 45) dX10_paths_44 (by first | assumption | decide | omega) (by first | rfl | assumption) (by first | decide | omega) (by first | omega | (simp only [mL85, mL86, mL87, mL88, mL89, mL90, mL91, mL92, mL93, mL94, mL95, mL96, mL97, mL98, mL100, mL101, mL102, mL103]; omega)) ?_
        refine k_aload_n (pc' := 46) dX10_paths_45 rfl ?_
        refine p_get (pc' := 49) clX10 (Nat.le_of_ble_eq_true rfl) fl_RX10_15 dX10_paths_46 (by first | assumption | decide | omega) (by first | rfl | assumption) rfl ?_
        refine k_bipush (pc' := 51) (v := nI 6) dX10_paths_49 rfl ?_
        refine k_iload_n (pc' := 52) dX10_paths_51 rfl ?_
        refine k_imul (pc' := 53) dX10_paths_52 (by first | exact pk_mul _ _ | rfl) ?_
        refine k_iload_n (pc' := 54) dX10_paths_53 rfl ?_
        refine k_iadd (pc' := 55) dX10_paths_54 (by first | exact nI_add _ _ | rfl) ?_
        refine p_ialdN (pc' := 56) dX10_paths_55 (by first | assumption | decide | omega) (by first | rfl | assumption) (by first | decide | omega) (by first | omega | (simp only [mL85, mL86, mL87, mL88, mL89, mL90, mL91, mL92, mL93, mL94, mL95, mL96, mL97, mL98, mL100, mL101, mL102, mL103]; omega)) ?_
        refine k_iadd (pc' := 57) (v := f (6 * i + k) + f (6 * k + j)) dX10_paths_56 rfl ?_
        refine k_istore (pc' := 59) dX10_paths_57 (Nat.le_of_ble_eq_true rfl) rfl ?_
        by_cases hij : i = j
        · have e : mPa1 k i j f = f := if_neg (fun q => q.1 hij)
          rw [e] at ih3
          refine k_iload_n (pc' := 60) dX10_paths_59 rfl ?_
          refine k_iload_n (pc' := 61) dX10_paths_60 rfl ?_
          refine k_icmp_eq (tgt := 88) (pc' := 64) dX10_paths_61 rfl (fun _ => ?_) (fun zz_ => absurd (by rw [hij]) zz_)
          refine k_iinc (pc' := 91) (v := nI (j + 1)) dX10_paths_88 rfl (nI_inc _) (Nat.le_of_ble_eq_true rfl) rfl ?_
          refine k_goto (tgt := 26) dX10_paths_91 rfl ?_
          exact ih3 _
        · by_cases hlt : f (6 * i + k) + f (6 * k + j) < f (6 * i + j)
          · have e : mPa1 k i j f = mIs i j (f (6 * i + k) + f (6 * k + j)) f := if_pos ⟨hij, hlt⟩
            rw [e] at ih3
            refine k_iload_n (pc' := 60) dX10_paths_59 rfl ?_
            refine k_iload_n (pc' := 61) dX10_paths_60 rfl ?_
            refine k_icmp_eq (tgt := 88) (pc' := 64) dX10_paths_61 rfl (fun zz_ => absurd zz_ (by rw [nI_eq (by omega) (by omega)]; exact hij)) (fun _ => ?_)
            refine k_iload (pc' := 66) dX10_paths_64 rfl ?_
            refine k_aload_n (pc' := 67) dX10_paths_66 rfl ?_
            refine p_get (pc' := 70) clX10 (Nat.le_of_ble_eq_true rfl) fl_RX10_15 dX10_paths_67 (by first | assumption | decide | omega) (by first | rfl | assumption) rfl ?_
            refine k_bipush (pc' := 72) (v := nI 6) dX10_paths_70 rfl ?_
            refine k_iload_n (pc' := 73) dX10_paths_72 rfl ?_
            refine k_imul (pc' := 74) dX10_paths_73 (by first | exact pk_mul _ _ | rfl) ?_
            refine k_iload_n (pc' := 75) dX10_paths_74 rfl ?_
            refine k_iadd (pc' := 76) dX10_paths_75 (by first | exact nI_add _ _ | rfl) ?_
            refine p_ialdN (pc' := 77) dX10_paths_76 (by first | assumption | decide | omega) (by first | rfl | assumption) (by first | decide | omega) (by first | omega | (simp only [mL85, mL86, mL87, mL88, mL89, mL90, mL91, mL92, mL93, mL94, mL95, mL96, mL97, mL98, mL100, mL101, mL102, mL103]; omega)) ?_
            refine k_icmp_ge (tgt := 88) (pc' := 80) dX10_paths_77 rfl (fun zz_ => absurd zz_ (Int32.not_le.mpr hlt)) (fun _ => ?_)
            refine k_aload_n (pc' := 81) dX10_paths_80 rfl ?_
            refine k_iload_n (pc' := 82) dX10_paths_81 rfl ?_
            refine k_iload_n (pc' := 83) dX10_paths_82 rfl ?_
            refine k_iload (pc' := 85) dX10_paths_83 rfl ?_
            refine p_vV (ν := mX10_is) (pc' := 88) dX10_paths_85 ml_RX10_115 mo_X10_is mv_X10_is clX10 (Nat.le_of_ble_eq_true rfl) rfl rfl (Nat.le_of_ble_eq_true rfl) (by first | assumption | decide | omega) (by first | rfl | assumption) (by decide) (c_is (a := va_up (mAh a) 85 f) (by omega) (by omega)) ?_
            refine k_iinc (pc' := 91) (v := nI (j + 1)) dX10_paths_88 rfl (nI_inc _) (Nat.le_of_ble_eq_true rfl) rfl ?_
            refine k_goto (tgt := 26) dX10_paths_91 rfl ?_
            have e3 : va_up (va_up (mAh a) 85 f) 85 (mIs i j (f (6 * i + k) + f (6 * k + j)) (va_up (mAh a) 85 f 85)) = va_up (mAh a) 85 (mIs i j (f (6 * i + k) + f (6 * k + j)) f) := by rw [up_up, up_s]
            rw [e3]
            exact ih3 _
          · have e : mPa1 k i j f = f := if_neg (fun q => hlt q.2)
            rw [e] at ih3
            refine k_iload_n (pc' := 60) dX10_paths_59 rfl ?_
            refine k_iload_n (pc' := 61) dX10_paths_60 rfl ?_
            refine k_icmp_eq (tgt := 88) (pc' := 64) dX10_paths_61 rfl (fun zz_ => absurd zz_ (by rw [nI_eq (by omega) (by omega)]; exact hij)) (fun _ => ?_)
            refine k_iload (pc' := 66) dX10_paths_64 rfl ?_
            refine k_aload_n (pc' := 67) dX10_paths_66 rfl ?_
            refine p_get (pc' := 70) clX10 (Nat.le_of_ble_eq_true rfl) fl_RX10_15 dX10_paths_67 (by first | assumption | decide | omega) (by first | rfl | assumption) rfl ?_
            refine k_bipush (pc' := 72) (v := nI 6) dX10_paths_70 rfl ?_
            refine k_iload_n (pc' := 73) dX10_paths_72 rfl ?_
            refine k_imul (pc' := 74) dX10_paths_73 (by first | exact pk_mul _ _ | rfl) ?_
            refine k_iload_n (pc' := 75) dX10_paths_74 rfl ?_
            refine k_iadd (pc' := 76) dX10_paths_75 (by first | exact nI_add _ _ | rfl) ?_
            refine p_ialdN (pc' := 77) dX10_paths_76 (by first | assumption | decide | omega) (by first | rfl | assumption) (by first | decide | omega) (by first | omega | (simp only [mL85, mL86, mL87, mL88, mL89, mL90, mL91, mL92, mL93, mL94, mL95, mL96, mL97, mL98, mL100, mL101, mL102, mL103]; omega)) ?_
            refine k_icmp_ge (tgt := 88) (pc' := 80) dX10_paths_77 rfl (fun _ => ?_) (fun zz_ => absurd (Int32.not_lt.mp hlt) zz_)
            refine k_iinc (pc' := 91) (v := nI (j + 1)) dX10_paths_88 rfl (nI_inc _) (Nat.le_of_ble_eq_true rfl) rfl ?_
            refine k_goto (tgt := 26) dX10_paths_91 rfl ?_
            exact ih3 _
      · intro y3
        refine k_iload_n (pc' := 27) dX10_paths_26 rfl ?_
        refine k_aload_n (pc' := 28) dX10_paths_27 rfl ?_
        refine p_get (pc' := 31) clX10 (Nat.le_of_ble_eq_true rfl) fl_RX10_9 dX10_paths_28 (by first | assumption | decide | omega) (by first | rfl | assumption) rfl ?_
        refine k_icmp_ge (tgt := 94) (pc' := 34) dX10_paths_31 rfl (fun _ => ?_) (fun zz_ => absurd (nI_le (by omega) (by omega)) zz_)
        refine k_iinc (pc' := 97) (v := nI (i + 1)) dX10_paths_94 rfl (nI_inc _) (Nat.le_of_ble_eq_true rfl) rfl ?_
        refine k_goto (tgt := 16) dX10_paths_97 rfl ?_
        exact ih2 _ _
    · intro y2 y3
      refine k_iload_n (pc' := 17) dX10_paths_16 rfl ?_
      refine k_aload_n (pc' := 18) dX10_paths_17 rfl ?_
      refine p_get (pc' := 21) clX10 (Nat.le_of_ble_eq_true rfl) fl_RX10_9 dX10_paths_18 (by first | assumption | decide | omega) (by first | rfl | assumption) rfl ?_
      refine k_icmp_ge (tgt := 100) (pc' := 24) dX10_paths_21 rfl (fun _ => ?_) (fun zz_ => absurd (nI_le (by omega) (by omega)) zz_)
      refine k_iinc (pc' := 103) (v := nI (k + 1)) dX10_paths_100 rfl (nI_inc _) (Nat.le_of_ble_eq_true rfl) rfl ?_
      refine k_goto (tgt := 6) dX10_paths_103 rfl ?_
      exact ih _ _ _
  · intro y1 y2 y3
    refine k_iload_n (pc' := 7) dX10_paths_6 rfl ?_
    refine k_aload_n (pc' := 8) dX10_paths_7 rfl ?_
    refine p_get (pc' := 11) clX10 (Nat.le_of_ble_eq_true rfl) fl_RX10_9 dX10_paths_8 (by first | assumption | decide | omega) (by first | rfl | assumption) rfl ?_
    refine k_icmp_ge (tgt := 106) (pc' := 14) dX10_paths_11 rfl (fun _ => ?_) (fun zz_ => absurd (nI_le (by omega) (by omega)) zz_)
    refine k_aload_n (pc' := 107) dX10_paths_106 rfl ?_
    refine p_vI (ν := mX10_done) (pc' := 110) dX10_paths_107 ml_RX10_119 mo_X10_done mv_X10_done clX10 (Nat.le_of_ble_eq_true rfl) rfl rfl (Nat.le_of_ble_eq_true rfl) (by first | assumption | decide | omega) (by first | rfl | assumption) (by decide) (c_done hN hN6 hD) ?_
    refine p_ireturn dX10_paths_110 rfl ?_
    exact ⟨rfl, rfl⟩
theorem m_town (hN : 2 ≤ N) (hN6 : N ≤ 6) (hD : D ≤ 8) : ConP G mX10_town 3 [.ref (adr G 84)] (putM G σ N D T z a tb) (rI (mCh N (mTo N (a 86) (a 87) (a 85)) (mAh a 97)) (putM G σ N (mDe N D z a (mTo N (a 86) (a 87) (a 85))).1 T (va_up z 18 (nI N)) (mDe N D z a (mTo N (a 86) (a 87) (a 85))).2 tb)) := by
  generalize hF : mTo N (a 86) (a 87) (a 85) = F
  refine ConP.of rfl (Nat.le_of_ble_eq_true rfl) ?_
  refine k_aload_n (pc' := 1) dX10_town_0 rfl ?_
  refine p_vV (ν := mX10_ahead) (pc' := 4) dX10_town_1 ml_RX10_112 mo_X10_ahead mv_X10_ahead clX10 (Nat.le_of_ble_eq_true rfl) rfl rfl (Nat.le_of_ble_eq_true rfl) (by first | assumption | decide | omega) (by first | rfl | assumption) (by decide) (c_ahead) ?_
  refine k_iconst (pc' := 5) (v := nI 0) dX10_town_4 rfl ?_
  refine k_istore_n (pc' := 6) dX10_town_5 (Nat.le_of_ble_eq_true rfl) rfl ?_
  have key := loopU (fun i f => ∀ y1, OkP G mX10_town 3 (rI (mCh N F (mAh a 97)) (putM G σ N (mDe N D z a F).1 T (va_up z 18 (nI N)) (mDe N D z a F).2 tb)) 6 [some (.ref (adr G 84)), some (.int (nI i)), y1] [] (putM G σ N D T (va_up z 18 (nI N)) (va_up (mAh a) 85 f) tb)) (mTo2 N (a 86) (a 87)) N 0 N (a 85) (by omega) ?_ ?_ none
  · have e : va_up (mAh a) 85 (a 85) = mAh a := up_id (up_n (by decide))
    rw [e] at key
    exact key
  · intro i f _ hi ih y1
    refine k_iload_n (pc' := 7) dX10_town_6 rfl ?_
    refine k_aload_n (pc' := 8) dX10_town_7 rfl ?_
    refine p_get (pc' := 11) clX10 (Nat.le_of_ble_eq_true rfl) fl_RX10_9 dX10_town_8 (by first | assumption | decide | omega) (by first | rfl | assumption) rfl ?_
    refine k_icmp_ge (tgt := 75) (pc' := 14) dX10_town_11 rfl (fun zz_ => absurd zz_ (nI_ge (by omega) (by omega))) (fun _ => ?_)
    refine k_iload_n (pc' := 15) dX10_town_14 rfl ?_
    refine k_iconst (pc' := 16) (v := nI 1) dX10_town_15 rfl ?_
    refine k_iadd (pc' := 17) dX10_town_16 (by first | exact nI_add _ _ | rfl) ?_
    refine k_istore_n (pc' := 18) dX10_town_17 (Nat.le_of_ble_eq_true rfl) rfl ?_
    refine loopU (fun j f => OkP G mX10_town 3 (rI (mCh N F (mAh a 97)) (putM G σ N (mDe N D z a F).1 T (va_up z 18 (nI N)) (mDe N D z a F).2 tb)) 18 [some (.ref (adr G 84)), some (.int (nI i)), some (.int (nI j))] [] (putM G σ N D T (va_up z 18 (nI N)) (va_up (mAh a) 85 f) tb)) (mTo1 (a 86) (a 87) i) N (i + 1) (N - (i + 1)) f (by omega) ?_ ?_
    · intro j f hij hj ih2
      refine k_iload_n (pc' := 19) dX10_town_18 rfl ?_
      refine k_aload_n (pc' := 20) dX10_town_19 rfl ?_
      refine p_get (pc' := 23) clX10 (Nat.le_of_ble_eq_true rfl) fl_RX10_9 dX10_town_20 (by first | assumption | decide | omega) (by first | rfl | assumption) rfl ?_
      refine k_icmp_ge (tgt := 69) (pc' := 26) dX10_town_23 rfl (fun zz_ => absurd zz_ (nI_ge (by omega) (by omega))) (fun _ => ?_)
      refine k_aload_n (pc' := 27) dX10_town_26 rfl ?_
      refine k_iload_n (pc' := 28) dX10_town_27 rfl ?_
      refine k_iload_n (pc' := 29) dX10_town_28 rfl ?_
      refine k_aload_n (pc' := 30) dX10_town_29 rfl ?_
      refine p_get (pc' := 33) clX10 (Nat.le_of_ble_eq_true rfl) fl_RX10_19 dX10_town_30 (by first | assumption | decide | omega) (by first | rfl | assumption) rfl ?_
      refine k_iload_n (pc' := 34) dX10_town_33 rfl ?_
      refine p_ialdN (pc' := 35) dX10_town_34 (by first | assumption | decide | omega) (by first | rfl | assumption) (by first | decide | omega) (by first | omega | (simp only [mL85, mL86, mL87, mL88, mL89, mL90, mL91, mL92, mL93, mL94, mL95, mL96, mL97, mL98, mL100, mL101, mL102, mL103]; omega)) ?_
      refine k_aload_n (pc' := 36) dX10_town_35 rfl ?_
      refine p_get (pc' := 39) clX10 (Nat.le_of_ble_eq_true rfl) fl_RX10_19 dX10_town_36 (by first | assumption | decide | omega) (by first | rfl | assumption) rfl ?_
      refine k_iload_n (pc' := 40) dX10_town_39 rfl ?_
      refine p_ialdN (pc' := 41) dX10_town_40 (by first | assumption | decide | omega) (by first | rfl | assumption) (by first | decide | omega) (by first | omega | (simp only [mL85, mL86, mL87, mL88, mL89, mL90, mL91, mL92, mL93, mL94, mL95, mL96, mL97, mL98, mL100, mL101, mL102, mL103]; omega)) ?_
      refine p_sI (ν := mX10_off) (pc' := 44) dX10_town_41 ml_RX10_136 mo_X10_off ms_X10_off (Nat.le_of_ble_eq_true rfl) rfl rfl (Nat.le_of_ble_eq_true rfl) (by decide) (c_off) ?_
      refine k_aload_n (pc' := 45) dX10_town_44 rfl ?_
      refine p_get (pc' := 48) clX10 (Nat.le_of_ble_eq_true rfl) fl_RX10_22 dX10_town_45 (by first | assumption | decide | omega) (by first | rfl | assumption) rfl ?_
      refine k_iload_n (pc' := 49) dX10_town_48 rfl ?_
      refine p_ialdN (pc' := 50) dX10_town_49 (by first | assumption | decide | omega) (by first | rfl | assumption) (by first | decide | omega) (by first | omega | (simp only [mL85, mL86, mL87, mL88, mL89, mL90, mL91, mL92, mL93, mL94, mL95, mL96, mL97, mL98, mL100, mL101, mL102, mL103]; omega)) ?_
      refine k_aload_n (pc' := 51) dX10_town_50 rfl ?_
      refine p_get (pc' := 54) clX10 (Nat.le_of_ble_eq_true rfl) fl_RX10_22 dX10_town_51 (by first | assumption | decide | omega) (by first | rfl | assumption) rfl ?_
      refine k_iload_n (pc' := 55) dX10_town_54 rfl ?_
      refine p_ialdN (pc' := 56) dX10_town_55 (by first | assumption | decide | omega) (by first | rfl | assumption) (by first | decide | omega) (by first | omega | (simp only [mL85, mL86, mL87, mL88, mL89, mL90, mL91, mL92, mL93, mL94, mL95, mL96, mL97, mL98, mL100, mL101, mL102, mL103]; omega)) ?_
      refine p_sI (ν := mX10_off) (pc' := 59) dX10_town_56 ml_RX10_136 mo_X10_off ms_X10_off (Nat.le_of_ble_eq_true rfl) rfl rfl (Nat.le_of_ble_eq_true rfl) (by decide) (c_off) ?_
      refine k_iadd (pc' := 60) (v := mOff (a 86 i) (a 86 j) + mOff (a 87 i) (a 87 j)) dX10_town_59 rfl ?_
      refine p_vV (ν := mX10_is) (pc' := 63) dX10_town_60 ml_RX10_115 mo_X10_is mv_X10_is clX10 (Nat.le_of_ble_eq_true rfl) rfl rfl (Nat.le_of_ble_eq_true rfl) (by first | assumption | decide | omega) (by first | rfl | assumption) (by decide) (c_is (a := va_up (mAh a) 85 f) (by omega) (by omega)) ?_
      refine k_iinc (pc' := 66) (v := nI (j + 1)) dX10_town_63 rfl (nI_inc _) (Nat.le_of_ble_eq_true rfl) rfl ?_
      refine k_goto (tgt := 18) dX10_town_66 rfl ?_
      have e3 : ∀ v, va_up (va_up (mAh a) 85 f) 85 (mIs i j v (va_up (mAh a) 85 f 85)) = va_up (mAh a) 85 (mIs i j v f) := fun v => by rw [up_up, up_s]
      rw [e3]
      exact ih2
    · refine k_iload_n (pc' := 19) dX10_town_18 rfl ?_
      refine k_aload_n (pc' := 20) dX10_town_19 rfl ?_
      refine p_get (pc' := 23) clX10 (Nat.le_of_ble_eq_true rfl) fl_RX10_9 dX10_town_20 (by first | assumption | decide | omega) (by first | rfl | assumption) rfl ?_
      refine k_icmp_ge (tgt := 69) (pc' := 26) dX10_town_23 rfl (fun _ => ?_) (fun zz_ => absurd (nI_le (by omega) (by omega)) zz_)
      refine k_iinc (pc' := 72) (v := nI (i + 1)) dX10_town_69 rfl (nI_inc _) (Nat.le_of_ble_eq_true rfl) rfl ?_
      refine k_goto (tgt := 6) dX10_town_72 rfl ?_
      exact ih _
  · intro y1
    rw [show upn N 0 (mTo2 N (a 86) (a 87)) (a 85) = F from hF]
    refine k_iload_n (pc' := 7) dX10_town_6 rfl ?_
    refine k_aload_n (pc' := 8) dX10_town_7 rfl ?_
    refine p_get (pc' := 11) clX10 (Nat.le_of_ble_eq_true rfl) fl_RX10_9 dX10_town_8 (by first | assumption | decide | omega) (by first | rfl | assumption) rfl ?_
    refine k_icmp_ge (tgt := 75) (pc' := 14) dX10_town_11 rfl (fun _ => ?_) (fun zz_ => absurd (nI_le (by omega) (by omega)) zz_)
    refine k_aload_n (pc' := 76) dX10_town_75 rfl ?_
    refine p_vI (ν := mX10_done) (pc' := 79) dX10_town_76 ml_RX10_119 mo_X10_done mv_X10_done clX10 (Nat.le_of_ble_eq_true rfl) rfl rfl (Nat.le_of_ble_eq_true rfl) (by first | assumption | decide | omega) (by first | rfl | assumption) (by decide) (c_done hN hN6 hD) ?_
    refine p_ireturn dX10_town_79 rfl ?_
    exact ⟨rfl, rfl⟩
end MODEL3
