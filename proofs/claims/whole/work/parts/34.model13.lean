def pairsL (N : Nat) : List (Nat × Nat) := (List.range N).flatMap (fun i => (List.range N).filterMap (fun j => if i < j then some (i, j) else none))
def prI (N p : Nat) : Nat := ((pairsL N)[p]?.getD (0, 0)).1
def prJ (N p : Nat) : Nat := ((pairsL N)[p]?.getD (0, 0)).2
theorem pr_at0 : ∀ N, N < 7 → ∀ i, i < N → ∀ j, j < N → i < j → prI N (pI N i j) = i ∧ prJ N (pI N i j) = j := by decide +kernel
theorem pr_of0 : ∀ N, N < 7 → ∀ p, p < pN N → prI N p < prJ N p ∧ prJ N p < N ∧ pI N (prI N p) (prJ N p) = p := by decide +kernel
theorem pI_last0 : ∀ N, N < 7 → 2 ≤ N → pI N (N - 1) N = pN N ∧ pI N N (N + 1) = pN N := by decide +kernel
/-- the first p from here on, n of them, for which it is so -/
def jF (bad : Nat → Bool) : Nat → Nat → Option Nat
  | 0, _ => none
  | n + 1, p => if bad p then some p else jF bad n (p + 1)
def jBad (N S h : Nat) (c f : Nat → Int32) (p : Nat) : Bool := decide (S ≤ p ∨ ¬ c (20 * h + p) = f (6 * prI N p + prJ N p))
def mJud (N S h : Nat) (c f : Nat → Int32) : Int32 := match jF (jBad N S h c f) (pN N) 0 with
  | some p => nI p
  | none => if S ≤ pN N then -2 else nI (pN N)
abbrev dg (b : Int32) : Prop := 48 ≤ b.toInt ∧ b.toInt ≤ 57
def tM (S : Nat) (by' : Nat → Int32) : Nat → Int32 → Nat → Int32 × Nat
  | 0, v, sp => (v, sp)
  | n + 1, v, sp => if dg (bA S by' sp) then tM S by' n (nI 10 * v + bA S by' sp - nI 48) (sp + 1) else (v, sp)
def mr1 (S : Nat) (by' : Nat → Int32) (i j : Nat) (s : PS) : PS := if s.2.2 = true then s else
  if bA S by' s.2.1 = (if j = 0 then nI 59 else nI 44) then
    (if dg (bA S by' (s.2.1 + 1)) then (mIs i j (tM S by' 3 (nI 0) (s.2.1 + 1)).1 s.1, (tM S by' 3 (nI 0) (s.2.1 + 1)).2, false) else (mIs i j (nI 0) s.1, s.2.1 + 1, true))
  else (mIs i j (nI 0) s.1, s.2.1, true)
def mr2 (S : Nat) (by' : Nat → Int32) (i : Nat) (s : PS) : PS := upn i 0 (mr1 S by' i) s
def mrA (N S : Nat) (by' : Nat → Int32) (t : Nat → Int32) : PS := upn (N - 1) 1 (mr2 S by') (zf 36 t, 1, false)
/-- the model's rows behind a text that was read -/
def mRdA (P : Nat) (a : Nat → Nat → Int32) (t : Nat → Int32) : Nat → Nat → Int32 := va_up (va_up (va_up (mAh (va_up a 102 t)) 86 (clF P 6 (a 86))) 87 (clF P 6 (a 87))) 85 (cpA 36 t (a 85))
section MODEL13
variable {G : GT} {σ : Sto} {N D T : Nat} {z : Nat → Int32} {a : Nat → Nat → Int32} {tb : Nat → Int64}
theorem m_judge (hN : 2 ≤ N) (hN6 : N ≤ 6) {kd sz : Nat → Nat} (ho : hoOk kd sz a) {x : Int32} : ConP G mX10_judge 3 [.ref (adr G 84), .int x] (putM G σ N D T z a tb) (rI (if 0 ≤ x.toInt ∧ x.toInt ≤ 5 then (if kd x.toInt.toNat = 0 then -11 else if kd x.toInt.toNat = 3 then mJud N (sz x.toInt.toNat) x.toInt.toNat (a 93) (a 85) else -12) else -1) (putM G σ N D T z a tb)) := by
  refine ConP.of rfl (Nat.le_of_ble_eq_true rfl) ?_
  refine k_iload_n (pc' := 1) dX10_judge_0 rfl ?_
  refine p_sI (ν := mX10_isHolder) (pc' := 4) dX10_judge_1 ml_RX10_176 mo_X10_isHolder ms_X10_isHolder (Nat.le_of_ble_eq_true rfl) rfl rfl (Nat.le_of_ble_eq_true rfl) (by decide) (c_mIsHolder) ?_
  refine k_if_ne (tgt := 9) (pc' := 7) dX10_judge_4 rfl (fun c_4 => ?_) (fun c_4 => ?_)
  rotate_left
  · rw [bI_eq] at c_4
    refine k_iconst (pc' := 8) (v := -1) dX10_judge_7 rfl ?_
    refine p_ireturn dX10_judge_8 rfl ?_
    exact ⟨by rw [if_neg c_4], rfl⟩
  rw [bI_ne] at c_4
  rw [if_pos c_4]
  obtain ⟨h, hh, hx⟩ := nI_in0 (x := x) (n := 6) (by omega) (by omega) (by decide)
  subst hx
  rw [nI_e (show h < 2 ^ 31 by omega), show ((h : Int)).toNat = h from rfl]
  obtain ⟨hk1, hk3, hs1, hs2, hs3⟩ := ho h hh
  by_cases h0 : kd h = 0
  · refine k_aload_n (pc' := 10) dX10_judge_9 rfl ?_
    refine k_iload_n (pc' := 11) dX10_judge_10 rfl ?_
    refine p_vI (ν := mX10_noRow) (pc' := 14) dX10_judge_11 ml_RX10_271 mo_X10_noRow mv_X10_noRow clX10 (Nat.le_of_ble_eq_true rfl) rfl rfl (Nat.le_of_ble_eq_true rfl) (by first | assumption | decide | omega) (by first | rfl | assumption) (by decide) (c_noRow ho hh) ?_
    refine k_if_eq (tgt := 23) (pc' := 17) dX10_judge_14 rfl (fun zz_ => absurd zz_ (by rw [if_pos h0]; decide)) (fun _ => ?_)
    refine k_aload_n (pc' := 18) dX10_judge_17 rfl ?_
    refine k_iload_n (pc' := 19) dX10_judge_18 rfl ?_
    refine p_vI (ν := mX10_noRow) (pc' := 22) dX10_judge_19 ml_RX10_271 mo_X10_noRow mv_X10_noRow clX10 (Nat.le_of_ble_eq_true rfl) rfl rfl (Nat.le_of_ble_eq_true rfl) (by first | assumption | decide | omega) (by first | rfl | assumption) (by decide) (c_noRow ho hh) ?_
    refine p_ireturn dX10_judge_22 rfl ?_
    exact ⟨by rw [if_pos h0, if_pos h0], rfl⟩
  by_cases h3 : kd h = 3
  rotate_left
  · refine k_aload_n (pc' := 10) dX10_judge_9 rfl ?_
    refine k_iload_n (pc' := 11) dX10_judge_10 rfl ?_
    refine p_vI (ν := mX10_noRow) (pc' := 14) dX10_judge_11 ml_RX10_271 mo_X10_noRow mv_X10_noRow clX10 (Nat.le_of_ble_eq_true rfl) rfl rfl (Nat.le_of_ble_eq_true rfl) (by first | assumption | decide | omega) (by first | rfl | assumption) (by decide) (c_noRow ho hh) ?_
    refine k_if_eq (tgt := 23) (pc' := 17) dX10_judge_14 rfl (fun zz_ => absurd zz_ (by rw [if_neg h0, if_neg h3]; decide)) (fun _ => ?_)
    refine k_aload_n (pc' := 18) dX10_judge_17 rfl ?_
    refine k_iload_n (pc' := 19) dX10_judge_18 rfl ?_
    refine p_vI (ν := mX10_noRow) (pc' := 22) dX10_judge_19 ml_RX10_271 mo_X10_noRow mv_X10_noRow clX10 (Nat.le_of_ble_eq_true rfl) rfl rfl (Nat.le_of_ble_eq_true rfl) (by first | assumption | decide | omega) (by first | rfl | assumption) (by decide) (c_noRow ho hh) ?_
    refine p_ireturn dX10_judge_22 rfl ?_
    exact ⟨by rw [if_neg h0, if_neg h3, if_neg h0, if_neg h3], rfl⟩
  rw [if_neg h0, if_pos h3]
  refine k_aload_n (pc' := 10) dX10_judge_9 rfl ?_
  refine k_iload_n (pc' := 11) dX10_judge_10 rfl ?_
  refine p_vI (ν := mX10_noRow) (pc' := 14) dX10_judge_11 ml_RX10_271 mo_X10_noRow mv_X10_noRow clX10 (Nat.le_of_ble_eq_true rfl) rfl rfl (Nat.le_of_ble_eq_true rfl) (by first | assumption | decide | omega) (by first | rfl | assumption) (by decide) (c_noRow ho hh) ?_
  refine k_if_eq (tgt := 23) (pc' := 17) dX10_judge_14 rfl (fun _ => ?_) (fun zz_ => absurd (by rw [if_neg h0, if_pos h3]) zz_)
  refine k_iconst (pc' := 24) (v := nI 0) dX10_judge_23 rfl ?_
  refine k_istore_n (pc' := 25) dX10_judge_24 (Nat.le_of_ble_eq_true rfl) rfl ?_
  refine k_iconst (pc' := 26) (v := nI 0) dX10_judge_25 rfl ?_
  refine k_istore_n (pc' := 27) dX10_judge_26 (Nat.le_of_ble_eq_true rfl) rfl ?_
  generalize hS : sz h = S at hs1 hs2
  have hP := pN_le hN6
  have fin : ∀ r, r = mJud N S h (a 93) (a 85) → rI (mJud N S h (a 93) (a 85)) (putM G σ N D T z a tb) (some (.int r)) (putM G σ N D T z a tb) := fun r hr => ⟨by rw [hr], rfl⟩
  have outer : ∀ n i p, i + n = N → p = pI N i (i + 1) → p ≤ pN N → jF (jBad N S h (a 93) (a 85)) (pN N - p) p = jF (jBad N S h (a 93) (a 85)) (pN N) 0 → ∀ y, OkP G mX10_judge 3 (rI (mJud N S h (a 93) (a 85)) (putM G σ N D T z a tb)) 27 [some (.ref (adr G 84)), some (.int (nI h)), some (.int (nI p)), some (.int (nI i)), y] [] (putM G σ N D T z a tb) := by
    intro n
    induction n with
    | zero =>
      intro i p hi hp hpl hj y
      have hiN : i = N := by omega
      subst hiN
      have hpe : p = pN i := hp.trans (pI_last0 i (by omega) hN).2
      subst hpe
      rw [Nat.sub_self] at hj
      have hj : none = jF (jBad i S h (a 93) (a 85)) (pN i) 0 := hj
      refine k_iload_n (pc' := 28) dX10_judge_27 rfl ?_
      refine k_aload_n (pc' := 29) dX10_judge_28 rfl ?_
      refine p_get (pc' := 32) clX10 (Nat.le_of_ble_eq_true rfl) fl_RX10_9 dX10_judge_29 (by first | assumption | decide | omega) (by first | rfl | assumption) rfl ?_
      refine k_icmp_ge (tgt := 102) (pc' := 35) dX10_judge_32 rfl (fun _ => ?_) (fun zz_ => absurd (nI_le (by omega) (by omega)) zz_)
      refine k_aload_n (pc' := 103) dX10_judge_102 rfl ?_
      refine p_get (pc' := 106) clX10 (Nat.le_of_ble_eq_true rfl) fl_RX10_37 dX10_judge_103 (by first | assumption | decide | omega) (by first | rfl | assumption) rfl ?_
      refine k_iload_n (pc' := 107) dX10_judge_106 rfl ?_
      refine p_ialdN (pc' := 108) dX10_judge_107 (by decide) rfl (by decide) (by simp only [mL92]; omega) ?_
      rw [hs1]
      by_cases hc : S ≤ pN i
      · refine k_iload_n (pc' := 109) dX10_judge_108 rfl ?_
        refine k_icmp_le (tgt := 116) (pc' := 112) dX10_judge_109 rfl (fun _ => ?_) (fun zz_ => absurd (nI_le (by omega) (by omega)) zz_)
        refine k_bipush (pc' := 118) (v := -2) dX10_judge_116 rfl ?_
        refine p_ireturn dX10_judge_118 rfl ?_
        exact fin _ (by unfold mJud; rw [← hj]; dsimp only; rw [if_pos hc])
      · refine k_iload_n (pc' := 109) dX10_judge_108 rfl ?_
        refine k_icmp_le (tgt := 116) (pc' := 112) dX10_judge_109 rfl (fun zz_ => absurd zz_ (nI_ge (by omega) (by omega))) (fun _ => ?_)
        refine k_iload_n (pc' := 113) dX10_judge_112 rfl ?_
        refine k_goto (tgt := 118) dX10_judge_113 rfl ?_
        refine p_ireturn dX10_judge_118 rfl ?_
        exact fin _ (by unfold mJud; rw [← hj]; dsimp only; rw [if_neg hc])
    | succ n ih =>
      intro i p hi hp hpl hj y
      refine k_iload_n (pc' := 28) dX10_judge_27 rfl ?_
      refine k_aload_n (pc' := 29) dX10_judge_28 rfl ?_
      refine p_get (pc' := 32) clX10 (Nat.le_of_ble_eq_true rfl) fl_RX10_9 dX10_judge_29 (by first | assumption | decide | omega) (by first | rfl | assumption) rfl ?_
      refine k_icmp_ge (tgt := 102) (pc' := 35) dX10_judge_32 rfl (fun zz_ => absurd zz_ (nI_ge (by omega) (by omega))) (fun _ => ?_)
      refine k_iload_n (pc' := 36) dX10_judge_35 rfl ?_
      refine k_iconst (pc' := 37) (v := nI 1) dX10_judge_36 rfl ?_
      refine k_iadd (pc' := 38) dX10_judge_37 (by first | exact nI_add _ _ | rfl) ?_
      refine k_istore (pc' := 40) dX10_judge_38 (Nat.le_of_ble_eq_true rfl) rfl ?_
      have inner : ∀ m j p, j + m = N → i < j → p = pI N i j → p ≤ pN N → jF (jBad N S h (a 93) (a 85)) (pN N - p) p = jF (jBad N S h (a 93) (a 85)) (pN N) 0 → OkP G mX10_judge 3 (rI (mJud N S h (a 93) (a 85)) (putM G σ N D T z a tb)) 40 [some (.ref (adr G 84)), some (.int (nI h)), some (.int (nI p)), some (.int (nI i)), some (.int (nI j))] [] (putM G σ N D T z a tb) := by
        intro m
        induction m with
        | zero =>
          intro j p hj hij hp hpl hq
          have hjN : j = N := by omega
          subst hjN
          refine k_iload (pc' := 42) dX10_judge_40 rfl ?_
          refine k_aload_n (pc' := 43) dX10_judge_42 rfl ?_
          refine p_get (pc' := 46) clX10 (Nat.le_of_ble_eq_true rfl) fl_RX10_9 dX10_judge_43 (by first | assumption | decide | omega) (by first | rfl | assumption) rfl ?_
          refine k_icmp_ge (tgt := 96) (pc' := 49) dX10_judge_46 rfl (fun _ => ?_) (fun zz_ => absurd (nI_le (by omega) (by omega)) zz_)
          refine k_iinc (pc' := 99) (v := nI (i + 1)) dX10_judge_96 rfl (nI_inc _) (Nat.le_of_ble_eq_true rfl) rfl ?_
          refine k_goto (tgt := 27) dX10_judge_99 rfl ?_
          exact ih (i + 1) p (by omega) (hp.trans (pI_next0 j (by omega) i (by omega))) hpl hq _
        | succ m ihm =>
          intro j p hj hij hp hpl hq
          have hlt := pI_lt0 N (by omega) i (by omega) j (by omega) (by omega)
          have hat := pr_at0 N (by omega) i (by omega) j (by omega) hij
          have hup := pI_up0 N (by omega) i (by omega) j (by omega) hij
          rw [← hp] at hlt hat hup
          have hstep : jF (jBad N S h (a 93) (a 85)) (pN N - p) p = if jBad N S h (a 93) (a 85) p then some p else jF (jBad N S h (a 93) (a 85)) (pN N - (p + 1)) (p + 1) := by
            rw [show pN N - p = (pN N - (p + 1)) + 1 by omega]
            rfl
          rw [hstep] at hq
          have hbad : jBad N S h (a 93) (a 85) p = decide (S ≤ p ∨ ¬ a 93 (20 * h + p) = a 85 (6 * i + j)) := by unfold jBad; rw [hat.1, hat.2]
          refine k_iload (pc' := 42) dX10_judge_40 rfl ?_
          refine k_aload_n (pc' := 43) dX10_judge_42 rfl ?_
          refine p_get (pc' := 46) clX10 (Nat.le_of_ble_eq_true rfl) fl_RX10_9 dX10_judge_43 (by first | assumption | decide | omega) (by first | rfl | assumption) rfl ?_
          refine k_icmp_ge (tgt := 96) (pc' := 49) dX10_judge_46 rfl (fun zz_ => absurd zz_ (nI_ge (by omega) (by omega))) (fun _ => ?_)
          refine k_iload_n (pc' := 50) dX10_judge_49 rfl ?_
          refine k_aload_n (pc' := 51) dX10_judge_50 rfl ?_
          refine p_get (pc' := 54) clX10 (Nat.le_of_ble_eq_true rfl) fl_RX10_37 dX10_judge_51 (by first | assumption | decide | omega) (by first | rfl | assumption) rfl ?_
          refine k_iload_n (pc' := 55) dX10_judge_54 rfl ?_
          refine p_ialdN (pc' := 56) dX10_judge_55 (by decide) rfl (by decide) (by simp only [mL92]; omega) ?_
          rw [hs1]
          by_cases hc1 : S ≤ p
          · rw [hbad, decide_eq_true (Or.inl hc1), if_pos rfl] at hq
            refine k_icmp_ge (tgt := 85) (pc' := 59) dX10_judge_56 rfl (fun _ => ?_) (fun zz_ => absurd (nI_le (by omega) (by omega)) zz_)
            refine k_iload_n (pc' := 86) dX10_judge_85 rfl ?_
            refine p_ireturn dX10_judge_86 rfl ?_
            exact fin _ (by unfold mJud; rw [← hq])
          by_cases hc2 : a 93 (20 * h + p) = a 85 (6 * i + j)
          · rw [hbad, decide_eq_false (fun q => q.elim hc1 (fun q => q hc2))] at hq
            refine k_icmp_ge (tgt := 85) (pc' := 59) dX10_judge_56 rfl (fun zz_ => absurd zz_ (nI_ge (by omega) (by omega))) (fun _ => ?_)
            refine k_aload_n (pc' := 60) dX10_judge_59 rfl ?_
            refine p_get (pc' := 63) clX10 (Nat.le_of_ble_eq_true rfl) fl_RX10_40 dX10_judge_60 (by first | assumption | decide | omega) (by first | rfl | assumption) rfl ?_
            refine k_bipush (pc' := 65) (v := nI 20) dX10_judge_63 rfl ?_
            refine k_iload_n (pc' := 66) dX10_judge_65 rfl ?_
            refine k_imul (pc' := 67) dX10_judge_66 (by first | exact pk_mul _ _ | rfl) ?_
            refine k_iload_n (pc' := 68) dX10_judge_67 rfl ?_
            refine k_iadd (pc' := 69) dX10_judge_68 (by first | exact nI_add _ _ | rfl) ?_
            refine p_ialdN (pc' := 70) dX10_judge_69 (by first | assumption | decide | omega) (by first | rfl | assumption) (by first | decide | omega) (by first | omega | (simp only [mL85, mL86, mL87, mL88, mL89, mL90, mL91, mL92, mL93, mL94, mL95, mL96, mL97, mL98, mL100, mL101, mL102, mL103]; omega)) ?_
            refine k_aload_n (pc' := 71) dX10_judge_70 rfl ?_
            refine p_get (pc' := 74) clX10 (Nat.le_of_ble_eq_true rfl) fl_RX10_15 dX10_judge_71 (by first | assumption | decide | omega) (by first | rfl | assumption) rfl ?_
            refine k_bipush (pc' := 76) (v := nI 6) dX10_judge_74 rfl ?_
            refine k_iload_n (pc' := 77) dX10_judge_76 rfl ?_
            refine k_imul (pc' := 78) dX10_judge_77 (by first | exact pk_mul _ _ | rfl) ?_
            refine k_iload (pc' := 80) dX10_judge_78 rfl ?_
            refine k_iadd (pc' := 81) dX10_judge_80 (by first | exact nI_add _ _ | rfl) ?_
            refine p_ialdN (pc' := 82) dX10_judge_81 (by first | assumption | decide | omega) (by first | rfl | assumption) (by first | decide | omega) (by first | omega | (simp only [mL85, mL86, mL87, mL88, mL89, mL90, mL91, mL92, mL93, mL94, mL95, mL96, mL97, mL98, mL100, mL101, mL102, mL103]; omega)) ?_
            refine k_icmp_eq (tgt := 87) (pc' := 85) dX10_judge_82 rfl (fun _ => ?_) (fun zz_ => absurd hc2 zz_)
            refine k_iinc (pc' := 90) (v := nI (p + 1)) dX10_judge_87 rfl (nI_inc _) (Nat.le_of_ble_eq_true rfl) rfl ?_
            refine k_iinc (pc' := 93) (v := nI (j + 1)) dX10_judge_90 rfl (nI_inc _) (Nat.le_of_ble_eq_true rfl) rfl ?_
            refine k_goto (tgt := 40) dX10_judge_93 rfl ?_
            exact ihm (j + 1) (p + 1) (by omega) (by omega) hup (by omega) hq
          · rw [hbad, decide_eq_true (Or.inr hc2), if_pos rfl] at hq
            refine k_icmp_ge (tgt := 85) (pc' := 59) dX10_judge_56 rfl (fun zz_ => absurd zz_ (nI_ge (by omega) (by omega))) (fun _ => ?_)
            refine k_aload_n (pc' := 60) dX10_judge_59 rfl ?_
            refine p_get (pc' := 63) clX10 (Nat.le_of_ble_eq_true rfl) fl_RX10_40 dX10_judge_60 (by first | assumption | decide | omega) (by first | rfl | assumption) rfl ?_
            refine k_bipush (pc' := 65) (v := nI 20) dX10_judge_63 rfl ?_
            refine k_iload_n (pc' := 66) dX10_judge_65 rfl ?_
            refine k_imul (pc' := 67) dX10_judge_66 (by first | exact pk_mul _ _ | rfl) ?_
            refine k_iload_n (pc' := 68) dX10_judge_67 rfl ?_
            refine k_iadd (pc' := 69) dX10_judge_68 (by first | exact nI_add _ _ | rfl) ?_
            refine p_ialdN (pc' := 70) dX10_judge_69 (by first | assumption | decide | omega) (by first | rfl | assumption) (by first | decide | omega) (by first | omega | (simp only [mL85, mL86, mL87, mL88, mL89, mL90, mL91, mL92, mL93, mL94, mL95, mL96, mL97, mL98, mL100, mL101, mL102, mL103]; omega)) ?_
            refine k_aload_n (pc' := 71) dX10_judge_70 rfl ?_
            refine p_get (pc' := 74) clX10 (Nat.le_of_ble_eq_true rfl) fl_RX10_15 dX10_judge_71 (by first | assumption | decide | omega) (by first | rfl | assumption) rfl ?_
            refine k_bipush (pc' := 76) (v := nI 6) dX10_judge_74 rfl ?_
            refine k_iload_n (pc' := 77) dX10_judge_76 rfl ?_
            refine k_imul (pc' := 78) dX10_judge_77 (by first | exact pk_mul _ _ | rfl) ?_
            refine k_iload (pc' := 80) dX10_judge_78 rfl ?_
            refine k_iadd (pc' := 81) dX10_judge_80 (by first | exact nI_add _ _ | rfl) ?_
            refine p_ialdN (pc' := 82) dX10_judge_81 (by first | assumption | decide | omega) (by first | rfl | assumption) (by first | decide | omega) (by first | omega | (simp only [mL85, mL86, mL87, mL88, mL89, mL90, mL91, mL92, mL93, mL94, mL95, mL96, mL97, mL98, mL100, mL101, mL102, mL103]; omega)) ?_
            refine k_icmp_eq (tgt := 87) (pc' := 85) dX10_judge_82 rfl (fun zz_ => absurd zz_ hc2) (fun _ => ?_)
            refine k_iload_n (pc' := 86) dX10_judge_85 rfl ?_
            refine p_ireturn dX10_judge_86 rfl ?_
            exact fin _ (by unfold mJud; rw [← hq])
      exact inner (N - (i + 1)) (i + 1) p (by omega) (by omega) hp hpl hj
  exact outer N 0 0 (by omega) (pI_00 N (by omega)).symm (Nat.zero_le _) (by rw [Nat.sub_zero]) none
/-- the state within read() -/
def stR (G : GT) (σ : Sto) (N D S : Nat) (z : Nat → Int32) (a : Nat → Nat → Int32) (tb : Nat → Int64) (s : PS) : Sto := putM G σ N D 0 (va_up (va_up (va_up z 27 (nI S)) 26 (nI s.2.1)) 28 (bI (s.2.2 = true))) (va_up a 102 s.1) tb
theorem c_here {S : Nat} {s : PS} (hS : S ≤ 80) (hs : s.2.1 < 1000) : ConP G mX10_here 1 [.ref (adr G 84)] (stR G σ N D S z a tb s) (rI (bA S (a 90) s.2.1) (stR G σ N D S z a tb s)) := by
  refine ConP.of rfl (Nat.le_of_ble_eq_true rfl) ?_
  unfold stR
  by_cases h : s.2.1 < S
  · refine k_aload_n (pc' := 1) dX10_here_0 rfl ?_
    refine p_get (pc' := 4) clX10 (Nat.le_of_ble_eq_true rfl) fl_RX10_236 dX10_here_1 (by first | assumption | decide | omega) (by first | rfl | assumption) rfl ?_
    refine k_aload_n (pc' := 5) dX10_here_4 rfl ?_
    refine p_get (pc' := 8) clX10 (Nat.le_of_ble_eq_true rfl) fl_RX10_239 dX10_here_5 (by first | assumption | decide | omega) (by first | rfl | assumption) rfl ?_
    refine k_icmp_ge (tgt := 23) (pc' := 11) dX10_here_8 rfl (fun zz_ => absurd zz_ (nI_ge h (by omega))) (fun _ => ?_)
    refine k_aload_n (pc' := 12) dX10_here_11 rfl ?_
    refine p_get (pc' := 15) clX10 (Nat.le_of_ble_eq_true rfl) fl_RX10_31 dX10_here_12 (by first | assumption | decide | omega) (by first | rfl | assumption) rfl ?_
    refine k_aload_n (pc' := 16) dX10_here_15 rfl ?_
    refine p_get (pc' := 19) clX10 (Nat.le_of_ble_eq_true rfl) fl_RX10_236 dX10_here_16 (by first | assumption | decide | omega) (by first | rfl | assumption) rfl ?_
    refine p_ialdN (pc' := 20) (k := s.2.1) dX10_here_19 (by decide) rfl (by decide) (by simp only [mL90]; omega) ?_
    refine k_goto (tgt := 24) dX10_here_20 rfl ?_
    refine p_ireturn dX10_here_24 rfl ?_
    exact ⟨by unfold bA; rw [if_pos h]; rfl, rfl⟩
  · refine k_aload_n (pc' := 1) dX10_here_0 rfl ?_
    refine p_get (pc' := 4) clX10 (Nat.le_of_ble_eq_true rfl) fl_RX10_236 dX10_here_1 (by first | assumption | decide | omega) (by first | rfl | assumption) rfl ?_
    refine k_aload_n (pc' := 5) dX10_here_4 rfl ?_
    refine p_get (pc' := 8) clX10 (Nat.le_of_ble_eq_true rfl) fl_RX10_239 dX10_here_5 (by first | assumption | decide | omega) (by first | rfl | assumption) rfl ?_
    refine k_icmp_ge (tgt := 23) (pc' := 11) dX10_here_8 rfl (fun _ => ?_) (fun zz_ => absurd (nI_le (by omega) (by omega)) zz_)
    refine k_iconst (pc' := 24) (v := -1) dX10_here_23 rfl ?_
    refine p_ireturn dX10_here_24 rfl ?_
    exact ⟨by unfold bA; rw [if_neg h], rfl⟩
theorem stR_28 {S : Nat} {s : PS} {w : Bool} : va_up (stR G σ N D S z a tb s) 84 (ob 10 ((mFs G N D 0 (va_up (va_up (va_up z 27 (nI S)) 26 (nI s.2.1)) 28 (bI (s.2.2 = true)))).set 28 (.int (bI (w = true))))) = stR G σ N D S z a tb (s.1, s.2.1, w) := by
  unfold stR
  rw [pMz28, up_up]
theorem stR_26 {S : Nat} {s : PS} {k : Nat} : va_up (stR G σ N D S z a tb s) 84 (ob 10 ((mFs G N D 0 (va_up (va_up (va_up z 27 (nI S)) 26 (nI s.2.1)) 28 (bI (s.2.2 = true)))).set 26 (.int (nI k)))) = stR G σ N D S z a tb (s.1, k, s.2.2) := by
  unfold stR
  rw [pMz26, up_c (by decide), up_up]
theorem c_must {S : Nat} {s : PS} (hS : S ≤ 80) (hs : s.2.1 < 1000) (hw : s.2.2 = false) {c : Int32} : ConP G mX10_must 2 [.ref (adr G 84), .int c] (stR G σ N D S z a tb s) (rV (stR G σ N D S z a tb (if bA S (a 90) s.2.1 = c then (s.1, s.2.1 + 1, false) else (s.1, s.2.1, true)))) := by
  have hz : bI (s.2.2 = true) = 0 := by rw [bI_eq, hw]; decide
  refine ConP.of rfl (Nat.le_of_ble_eq_true rfl) ?_
  by_cases he : bA S (a 90) s.2.1 = c
  · rw [if_pos he]
    refine k_aload_n (pc' := 1) dX10_must_0 rfl ?_
    refine k_aload_n (pc' := 2) dX10_must_1 rfl ?_
    refine p_get (pc' := 5) clX10 (Nat.le_of_ble_eq_true rfl) fl_RX10_242 dX10_must_2 (by first | assumption | decide | omega) (by first | rfl | assumption) rfl ?_
    refine k_if_ne (tgt := 16) (pc' := 8) dX10_must_5 rfl (fun zz_ => absurd hz zz_) (fun _ => ?_)
    refine k_aload_n (pc' := 9) dX10_must_8 rfl ?_
    refine p_vI (ν := mX10_here) (pc' := 12) dX10_must_9 ml_RX10_245 mo_X10_here mv_X10_here clX10 (Nat.le_of_ble_eq_true rfl) rfl rfl (Nat.le_of_ble_eq_true rfl) (by first | assumption | decide | omega) (by first | rfl | assumption) (by decide) (c_here hS hs) ?_
    refine k_iload_n (pc' := 13) dX10_must_12 rfl ?_
    refine k_icmp_eq (tgt := 20) (pc' := 16) dX10_must_13 rfl (fun _ => ?_) (fun zz_ => absurd he zz_)
    refine k_iconst (pc' := 21) (v := nI 0) dX10_must_20 rfl ?_
    refine p_putI (pc' := 24) (σ1 := stR G σ N D S z a tb (s.1, s.2.1, false)) clX10 (Nat.le_of_ble_eq_true rfl) fl_RX10_242 dX10_must_21 rfl (Or.inr ⟨rfl, Or.inl rfl⟩) (by first | assumption | decide | omega) (by first | rfl | assumption) (Nat.le_of_ble_eq_true rfl) (by exact (stR_28 (w := false))) ?_
    refine k_aload_n (pc' := 25) dX10_must_24 rfl ?_
    refine k_dup (pc' := 26) dX10_must_25 rfl ?_
    refine p_get (pc' := 29) clX10 (Nat.le_of_ble_eq_true rfl) fl_RX10_236 dX10_must_26 (by first | assumption | decide | omega) (by first | rfl | assumption) rfl ?_
    refine k_aload_n (pc' := 30) dX10_must_29 rfl ?_
    refine p_get (pc' := 33) clX10 (Nat.le_of_ble_eq_true rfl) fl_RX10_242 dX10_must_30 (by first | assumption | decide | omega) (by first | rfl | assumption) rfl ?_
    refine k_if_eq (tgt := 40) (pc' := 36) dX10_must_33 rfl (fun _ => ?_) (fun zz_ => absurd rfl zz_)
    refine k_iconst (pc' := 41) (v := nI 1) dX10_must_40 rfl ?_
    refine k_iadd (pc' := 42) (v := nI (s.2.1 + 1)) dX10_must_41 (nI_add _ _) ?_
    refine p_putI (pc' := 45) (σ1 := stR G σ N D S z a tb (s.1, s.2.1 + 1, false)) clX10 (Nat.le_of_ble_eq_true rfl) fl_RX10_236 dX10_must_42 rfl (Or.inl rfl) (by first | assumption | decide | omega) (by first | rfl | assumption) (Nat.le_of_ble_eq_true rfl) (by exact stR_26) ?_
    refine p_return dX10_must_45 rfl ?_
    exact ⟨rfl, rfl⟩
  · rw [if_neg he]
    refine k_aload_n (pc' := 1) dX10_must_0 rfl ?_
    refine k_aload_n (pc' := 2) dX10_must_1 rfl ?_
    refine p_get (pc' := 5) clX10 (Nat.le_of_ble_eq_true rfl) fl_RX10_242 dX10_must_2 (by first | assumption | decide | omega) (by first | rfl | assumption) rfl ?_
    refine k_if_ne (tgt := 16) (pc' := 8) dX10_must_5 rfl (fun zz_ => absurd hz zz_) (fun _ => ?_)
    refine k_aload_n (pc' := 9) dX10_must_8 rfl ?_
    refine p_vI (ν := mX10_here) (pc' := 12) dX10_must_9 ml_RX10_245 mo_X10_here mv_X10_here clX10 (Nat.le_of_ble_eq_true rfl) rfl rfl (Nat.le_of_ble_eq_true rfl) (by first | assumption | decide | omega) (by first | rfl | assumption) (by decide) (c_here hS hs) ?_
    refine k_iload_n (pc' := 13) dX10_must_12 rfl ?_
    refine k_icmp_eq (tgt := 20) (pc' := 16) dX10_must_13 rfl (fun zz_ => absurd zz_ he) (fun _ => ?_)
    refine k_iconst (pc' := 17) (v := nI 1) dX10_must_16 rfl ?_
    refine k_goto (tgt := 21) dX10_must_17 rfl ?_
    refine p_putI (pc' := 24) (σ1 := stR G σ N D S z a tb (s.1, s.2.1, true)) clX10 (Nat.le_of_ble_eq_true rfl) fl_RX10_242 dX10_must_21 rfl (Or.inr ⟨rfl, Or.inr rfl⟩) (by first | assumption | decide | omega) (by first | rfl | assumption) (Nat.le_of_ble_eq_true rfl) (by exact (stR_28 (w := true))) ?_
    refine k_aload_n (pc' := 25) dX10_must_24 rfl ?_
    refine k_dup (pc' := 26) dX10_must_25 rfl ?_
    refine p_get (pc' := 29) clX10 (Nat.le_of_ble_eq_true rfl) fl_RX10_236 dX10_must_26 (by first | assumption | decide | omega) (by first | rfl | assumption) rfl ?_
    refine k_aload_n (pc' := 30) dX10_must_29 rfl ?_
    refine p_get (pc' := 33) clX10 (Nat.le_of_ble_eq_true rfl) fl_RX10_242 dX10_must_30 (by first | assumption | decide | omega) (by first | rfl | assumption) rfl ?_
    refine k_if_eq (tgt := 40) (pc' := 36) dX10_must_33 rfl (fun zz_ => absurd zz_ (show ¬ (1 : Int32) = 0 by decide)) (fun _ => ?_)
    refine k_iconst (pc' := 37) (v := nI 0) dX10_must_36 rfl ?_
    refine k_goto (tgt := 41) dX10_must_37 rfl ?_
    refine k_iadd (pc' := 42) (v := nI s.2.1) dX10_must_41 (nI_add _ _) ?_
    refine p_putI (pc' := 45) (σ1 := stR G σ N D S z a tb (s.1, s.2.1, true)) clX10 (Nat.le_of_ble_eq_true rfl) fl_RX10_236 dX10_must_42 rfl (Or.inl rfl) (by first | assumption | decide | omega) (by first | rfl | assumption) (Nat.le_of_ble_eq_true rfl) (by exact stR_26) ?_
    refine p_return dX10_must_45 rfl ?_
    exact ⟨rfl, rfl⟩
theorem c_figuresBad {S : Nat} {s : PS} (hw : s.2.2 = true) : ConP G mX10_figures 2 [.ref (adr G 84)] (stR G σ N D S z a tb s) (rI (nI 0) (stR G σ N D S z a tb s)) := by
  have hz : ¬ bI (s.2.2 = true) = 0 := by rw [bI_ne]; exact hw
  have e : stR G σ N D S z a tb (s.1, s.2.1, true) = stR G σ N D S z a tb s := by rw [← hw]
  refine ConP.of rfl (Nat.le_of_ble_eq_true rfl) ?_
  refine k_aload_n (pc' := 1) dX10_figures_0 rfl ?_
  refine k_aload_n (pc' := 2) dX10_figures_1 rfl ?_
  refine p_get (pc' := 5) clX10 (Nat.le_of_ble_eq_true rfl) fl_RX10_242 dX10_figures_2 (by first | assumption | decide | omega) (by first | rfl | assumption) rfl ?_
  refine k_if_ne (tgt := 25) (pc' := 8) dX10_figures_5 rfl (fun _ => ?_) (fun zz_ => absurd zz_ hz)
  refine k_iconst (pc' := 26) (v := nI 1) dX10_figures_25 rfl ?_
  refine k_goto (tgt := 30) dX10_figures_26 rfl ?_
  refine p_putI (pc' := 33) (σ1 := stR G σ N D S z a tb s) clX10 (Nat.le_of_ble_eq_true rfl) fl_RX10_242 dX10_figures_30 rfl (Or.inr ⟨rfl, Or.inr rfl⟩) (by first | assumption | decide | omega) (by first | rfl | assumption) (Nat.le_of_ble_eq_true rfl) (by exact (by rw [← e]; exact stR_28 (w := true))) ?_
  refine k_iconst (pc' := 34) (v := nI 0) dX10_figures_33 rfl ?_
  refine k_istore_n (pc' := 35) dX10_figures_34 (Nat.le_of_ble_eq_true rfl) rfl ?_
  refine k_iconst (pc' := 36) (v := nI 0) dX10_figures_35 rfl ?_
  refine k_istore_n (pc' := 37) dX10_figures_36 (Nat.le_of_ble_eq_true rfl) rfl ?_
  refine k_iload_n (pc' := 38) dX10_figures_37 rfl ?_
  refine k_iconst (pc' := 39) (v := nI 3) dX10_figures_38 rfl ?_
  refine k_icmp_ge (tgt := 95) (pc' := 42) dX10_figures_39 rfl (fun zz_ => absurd zz_ (by decide)) (fun _ => ?_)
  refine k_aload_n (pc' := 43) dX10_figures_42 rfl ?_
  refine p_get (pc' := 46) clX10 (Nat.le_of_ble_eq_true rfl) fl_RX10_242 dX10_figures_43 (by first | assumption | decide | omega) (by first | rfl | assumption) rfl ?_
  refine k_if_ne (tgt := 95) (pc' := 49) dX10_figures_46 rfl (fun _ => ?_) (fun zz_ => absurd zz_ hz)
  refine k_iload_n (pc' := 96) dX10_figures_95 rfl ?_
  refine p_ireturn dX10_figures_96 rfl ?_
  exact ⟨rfl, rfl⟩
theorem c_figures {S : Nat} {s : PS} (hS : S ≤ 80) (hs : s.2.1 < 1000) (hw : s.2.2 = false) : ConP G mX10_figures 2 [.ref (adr G 84)] (stR G σ N D S z a tb s) (rI (if dg (bA S (a 90) s.2.1) then (tM S (a 90) 3 (nI 0) s.2.1).1 else nI 0) (stR G σ N D S z a tb (if dg (bA S (a 90) s.2.1) then (s.1, (tM S (a 90) 3 (nI 0) s.2.1).2, false) else (s.1, s.2.1, true)))) := by
  have hz : bI (s.2.2 = true) = 0 := by rw [bI_eq, hw]; decide
  have dgI : ∀ b : Int32, ((48 : Int64).toInt ≤ b.toInt64.toInt ∧ b.toInt64.toInt ≤ (57 : Int64).toInt) ↔ dg b := fun b => in_w rfl rfl
  refine ConP.of rfl (Nat.le_of_ble_eq_true rfl) ?_
  by_cases hd : dg (bA S (a 90) s.2.1)
  · rw [if_pos hd, if_pos hd]
    refine k_aload_n (pc' := 1) dX10_figures_0 rfl ?_
    refine k_aload_n (pc' := 2) dX10_figures_1 rfl ?_
    refine p_get (pc' := 5) clX10 (Nat.le_of_ble_eq_true rfl) fl_RX10_242 dX10_figures_2 (by first | assumption | decide | omega) (by first | rfl | assumption) rfl ?_
    refine k_if_ne (tgt := 25) (pc' := 8) dX10_figures_5 rfl (fun zz_ => absurd hz zz_) (fun _ => ?_)
    refine k_aload_n (pc' := 9) dX10_figures_8 rfl ?_
    refine p_vI (ν := mX10_here) (pc' := 12) dX10_figures_9 ml_RX10_245 mo_X10_here mv_X10_here clX10 (Nat.le_of_ble_eq_true rfl) rfl rfl (Nat.le_of_ble_eq_true rfl) (by first | assumption | decide | omega) (by first | rfl | assumption) (by decide) (c_here hS hs) ?_
    refine k_i2l (pc' := 13) dX10_figures_12 rfl ?_
    refine k_ldc2 (pc' := 16)  dX10_figures_13 cl_RX10_248 ?_
    refine k_ldc2 (pc' := 19)  dX10_figures_16 cl_RX10_250 ?_
    refine p_sI (ν := mX10_in) (pc' := 22) dX10_figures_19 ml_RX10_77 mo_X10_in ms_X10_in (Nat.le_of_ble_eq_true rfl) rfl rfl (Nat.le_of_ble_eq_true rfl) (by decide) (c_in) ?_
    refine k_if_ne (tgt := 29) (pc' := 25) dX10_figures_22 rfl (fun _ => ?_) (fun zz_ => absurd zz_ (by rw [bI_ne, dgI]; exact hd))
    refine k_iconst (pc' := 30) (v := nI 0) dX10_figures_29 rfl ?_
    refine p_putI (pc' := 33) (σ1 := stR G σ N D S z a tb (s.1, s.2.1, false)) clX10 (Nat.le_of_ble_eq_true rfl) fl_RX10_242 dX10_figures_30 rfl (Or.inr ⟨rfl, Or.inl rfl⟩) (by first | assumption | decide | omega) (by first | rfl | assumption) (Nat.le_of_ble_eq_true rfl) (by exact (stR_28 (w := false))) ?_
    refine k_iconst (pc' := 34) (v := nI 0) dX10_figures_33 rfl ?_
    refine k_istore_n (pc' := 35) dX10_figures_34 (Nat.le_of_ble_eq_true rfl) rfl ?_
    refine k_iconst (pc' := 36) (v := nI 0) dX10_figures_35 rfl ?_
    refine k_istore_n (pc' := 37) dX10_figures_36 (Nat.le_of_ble_eq_true rfl) rfl ?_
    have main : ∀ n k v p, k + n = 3 → p < 1000 + k → ∀ r, tM S (a 90) n v p = r → OkP G mX10_figures 2 (rI r.1 (stR G σ N D S z a tb (s.1, r.2, false))) 37 [some (.ref (adr G 84)), some (.int v), some (.int (nI k))] [] (stR G σ N D S z a tb (s.1, p, false)) := by
      intro n
      induction n with
      | zero =>
        intro k v p hk hp r hr
        subst hr
        refine k_iload_n (pc' := 38) dX10_figures_37 rfl ?_
        refine k_iconst (pc' := 39) (v := nI 3) dX10_figures_38 rfl ?_
        refine k_icmp_ge (tgt := 95) (pc' := 42) dX10_figures_39 rfl (fun _ => ?_) (fun zz_ => absurd (nI_le (by omega) (by omega)) zz_)
        refine k_iload_n (pc' := 96) dX10_figures_95 rfl ?_
        refine p_ireturn dX10_figures_96 rfl ?_
        exact ⟨rfl, rfl⟩
      | succ n ih =>
        intro k v p hk hp r hr
        have hsh : ∀ {q}, q < 1004 → ConP G mX10_here 1 [.ref (adr G 84)] (stR G σ N D S z a tb (s.1, q, false)) (rI (bA S (a 90) q) (stR G σ N D S z a tb (s.1, q, false))) := by
          intro q hq
          rcases Nat.lt_or_ge q 1000 with h1 | h1
          · exact c_here (s := (s.1, q, false)) hS h1
          · have e : bA S (a 90) q = -1 := if_neg (by omega)
            rw [e]
            refine ConP.of rfl (Nat.le_of_ble_eq_true rfl) ?_
            unfold stR
            refine k_aload_n (pc' := 1) dX10_here_0 rfl ?_
            refine p_get (pc' := 4) clX10 (Nat.le_of_ble_eq_true rfl) fl_RX10_236 dX10_here_1 (by first | assumption | decide | omega) (by first | rfl | assumption) rfl ?_
            refine k_aload_n (pc' := 5) dX10_here_4 rfl ?_
            refine p_get (pc' := 8) clX10 (Nat.le_of_ble_eq_true rfl) fl_RX10_239 dX10_here_5 (by first | assumption | decide | omega) (by first | rfl | assumption) rfl ?_
            refine k_icmp_ge (tgt := 23) (pc' := 11) dX10_here_8 rfl (fun _ => ?_) (fun zz_ => absurd (nI_le (show S ≤ q by omega) (by omega)) zz_)
            refine k_iconst (pc' := 24) (v := -1) dX10_here_23 rfl ?_
            refine p_ireturn dX10_here_24 rfl ?_
            exact ⟨rfl, rfl⟩
        unfold tM at hr
        by_cases hc : dg (bA S (a 90) p)
        · rw [if_pos hc] at hr
          refine k_iload_n (pc' := 38) dX10_figures_37 rfl ?_
          refine k_iconst (pc' := 39) (v := nI 3) dX10_figures_38 rfl ?_
          refine k_icmp_ge (tgt := 95) (pc' := 42) dX10_figures_39 rfl (fun zz_ => absurd zz_ (nI_ge (by omega) (by omega))) (fun _ => ?_)
          refine k_aload_n (pc' := 43) dX10_figures_42 rfl ?_
          refine p_get (pc' := 46) clX10 (Nat.le_of_ble_eq_true rfl) fl_RX10_242 dX10_figures_43 (by first | assumption | decide | omega) (by first | rfl | assumption) rfl ?_
          refine k_if_ne (tgt := 95) (pc' := 49) dX10_figures_46 rfl (fun zz_ => absurd rfl zz_) (fun _ => ?_)
          refine k_aload_n (pc' := 50) dX10_figures_49 rfl ?_
          refine p_vI (ν := mX10_here) (pc' := 53) dX10_figures_50 ml_RX10_245 mo_X10_here mv_X10_here clX10 (Nat.le_of_ble_eq_true rfl) rfl rfl (Nat.le_of_ble_eq_true rfl) (by first | assumption | decide | omega) (by first | rfl | assumption) (by decide) (hsh (by omega)) ?_
          refine k_i2l (pc' := 54) dX10_figures_53 rfl ?_
          refine k_ldc2 (pc' := 57)  dX10_figures_54 cl_RX10_248 ?_
          refine k_ldc2 (pc' := 60)  dX10_figures_57 cl_RX10_250 ?_
          refine p_sI (ν := mX10_in) (pc' := 63) dX10_figures_60 ml_RX10_77 mo_X10_in ms_X10_in (Nat.le_of_ble_eq_true rfl) rfl rfl (Nat.le_of_ble_eq_true rfl) (by decide) (c_in) ?_
          refine k_if_eq (tgt := 95) (pc' := 66) dX10_figures_63 rfl (fun zz_ => absurd zz_ (by rw [bI_eq, dgI]; exact fun q => q hc)) (fun _ => ?_)
          refine k_bipush (pc' := 68) (v := nI 10) dX10_figures_66 rfl ?_
          refine k_iload_n (pc' := 69) dX10_figures_68 rfl ?_
          refine k_imul (pc' := 70) (v := nI 10 * v) dX10_figures_69 rfl ?_
          refine k_aload_n (pc' := 71) dX10_figures_70 rfl ?_
          refine p_vI (ν := mX10_here) (pc' := 74) dX10_figures_71 ml_RX10_245 mo_X10_here mv_X10_here clX10 (Nat.le_of_ble_eq_true rfl) rfl rfl (Nat.le_of_ble_eq_true rfl) (by first | assumption | decide | omega) (by first | rfl | assumption) (by decide) (hsh (by omega)) ?_
          refine k_iadd (pc' := 75) (v := nI 10 * v + bA S (a 90) p) dX10_figures_74 rfl ?_
          refine k_bipush (pc' := 77) (v := nI 48) dX10_figures_75 rfl ?_
          refine k_isub (pc' := 78) (v := nI 10 * v + bA S (a 90) p - nI 48) dX10_figures_77 rfl ?_
          refine k_istore_n (pc' := 79) dX10_figures_78 (Nat.le_of_ble_eq_true rfl) rfl ?_
          refine k_aload_n (pc' := 80) dX10_figures_79 rfl ?_
          refine k_dup (pc' := 81) dX10_figures_80 rfl ?_
          refine p_get (pc' := 84) clX10 (Nat.le_of_ble_eq_true rfl) fl_RX10_236 dX10_figures_81 (by first | assumption | decide | omega) (by first | rfl | assumption) rfl ?_
          refine k_iconst (pc' := 85) (v := nI 1) dX10_figures_84 rfl ?_
          refine k_iadd (pc' := 86) (v := nI (p + 1)) dX10_figures_85 (nI_add _ _) ?_
          refine p_putI (pc' := 89) (σ1 := stR G σ N D S z a tb (s.1, p + 1, false)) clX10 (Nat.le_of_ble_eq_true rfl) fl_RX10_236 dX10_figures_86 rfl (Or.inl rfl) (by first | assumption | decide | omega) (by first | rfl | assumption) (Nat.le_of_ble_eq_true rfl) (by exact (stR_26 (s := (s.1, p, false)))) ?_
          refine k_iinc (pc' := 92) (v := nI (k + 1)) dX10_figures_89 rfl (nI_inc _) (Nat.le_of_ble_eq_true rfl) rfl ?_
          refine k_goto (tgt := 37) dX10_figures_92 rfl ?_
          exact ih (k + 1) _ (p + 1) (by omega) (by omega) r hr
        · rw [if_neg hc] at hr
          subst hr
          refine k_iload_n (pc' := 38) dX10_figures_37 rfl ?_
          refine k_iconst (pc' := 39) (v := nI 3) dX10_figures_38 rfl ?_
          refine k_icmp_ge (tgt := 95) (pc' := 42) dX10_figures_39 rfl (fun zz_ => absurd zz_ (nI_ge (by omega) (by omega))) (fun _ => ?_)
          refine k_aload_n (pc' := 43) dX10_figures_42 rfl ?_
          refine p_get (pc' := 46) clX10 (Nat.le_of_ble_eq_true rfl) fl_RX10_242 dX10_figures_43 (by first | assumption | decide | omega) (by first | rfl | assumption) rfl ?_
          refine k_if_ne (tgt := 95) (pc' := 49) dX10_figures_46 rfl (fun zz_ => absurd rfl zz_) (fun _ => ?_)
          refine k_aload_n (pc' := 50) dX10_figures_49 rfl ?_
          refine p_vI (ν := mX10_here) (pc' := 53) dX10_figures_50 ml_RX10_245 mo_X10_here mv_X10_here clX10 (Nat.le_of_ble_eq_true rfl) rfl rfl (Nat.le_of_ble_eq_true rfl) (by first | assumption | decide | omega) (by first | rfl | assumption) (by decide) (hsh (by omega)) ?_
          refine k_i2l (pc' := 54) dX10_figures_53 rfl ?_
          refine k_ldc2 (pc' := 57)  dX10_figures_54 cl_RX10_248 ?_
          refine k_ldc2 (pc' := 60)  dX10_figures_57 cl_RX10_250 ?_
          refine p_sI (ν := mX10_in) (pc' := 63) dX10_figures_60 ml_RX10_77 mo_X10_in ms_X10_in (Nat.le_of_ble_eq_true rfl) rfl rfl (Nat.le_of_ble_eq_true rfl) (by decide) (c_in) ?_
          refine k_if_eq (tgt := 95) (pc' := 66) dX10_figures_63 rfl (fun _ => ?_) (fun zz_ => absurd (by rw [bI_eq, dgI]; exact hc) zz_)
          refine k_iload_n (pc' := 96) dX10_figures_95 rfl ?_
          refine p_ireturn dX10_figures_96 rfl ?_
          exact ⟨rfl, rfl⟩
    exact main 3 0 (nI 0) s.2.1 (by omega) (by omega) _ rfl
  · rw [if_neg hd, if_neg hd]
    refine k_aload_n (pc' := 1) dX10_figures_0 rfl ?_
    refine k_aload_n (pc' := 2) dX10_figures_1 rfl ?_
    refine p_get (pc' := 5) clX10 (Nat.le_of_ble_eq_true rfl) fl_RX10_242 dX10_figures_2 (by first | assumption | decide | omega) (by first | rfl | assumption) rfl ?_
    refine k_if_ne (tgt := 25) (pc' := 8) dX10_figures_5 rfl (fun zz_ => absurd hz zz_) (fun _ => ?_)
    refine k_aload_n (pc' := 9) dX10_figures_8 rfl ?_
    refine p_vI (ν := mX10_here) (pc' := 12) dX10_figures_9 ml_RX10_245 mo_X10_here mv_X10_here clX10 (Nat.le_of_ble_eq_true rfl) rfl rfl (Nat.le_of_ble_eq_true rfl) (by first | assumption | decide | omega) (by first | rfl | assumption) (by decide) (c_here hS hs) ?_
    refine k_i2l (pc' := 13) dX10_figures_12 rfl ?_
    refine k_ldc2 (pc' := 16)  dX10_figures_13 cl_RX10_248 ?_
    refine k_ldc2 (pc' := 19)  dX10_figures_16 cl_RX10_250 ?_
    refine p_sI (ν := mX10_in) (pc' := 22) dX10_figures_19 ml_RX10_77 mo_X10_in ms_X10_in (Nat.le_of_ble_eq_true rfl) rfl rfl (Nat.le_of_ble_eq_true rfl) (by decide) (c_in) ?_
    refine k_if_ne (tgt := 29) (pc' := 25) dX10_figures_22 rfl (fun zz_ => absurd (by rw [bI_eq, dgI]; exact hd) zz_) (fun _ => ?_)
    refine k_iconst (pc' := 26) (v := nI 1) dX10_figures_25 rfl ?_
    refine k_goto (tgt := 30) dX10_figures_26 rfl ?_
    refine p_putI (pc' := 33) (σ1 := stR G σ N D S z a tb (s.1, s.2.1, true)) clX10 (Nat.le_of_ble_eq_true rfl) fl_RX10_242 dX10_figures_30 rfl (Or.inr ⟨rfl, Or.inr rfl⟩) (by first | assumption | decide | omega) (by first | rfl | assumption) (Nat.le_of_ble_eq_true rfl) (by exact (stR_28 (w := true))) ?_
    refine k_iconst (pc' := 34) (v := nI 0) dX10_figures_33 rfl ?_
    refine k_istore_n (pc' := 35) dX10_figures_34 (Nat.le_of_ble_eq_true rfl) rfl ?_
    refine k_iconst (pc' := 36) (v := nI 0) dX10_figures_35 rfl ?_
    refine k_istore_n (pc' := 37) dX10_figures_36 (Nat.le_of_ble_eq_true rfl) rfl ?_
    refine k_iload_n (pc' := 38) dX10_figures_37 rfl ?_
    refine k_iconst (pc' := 39) (v := nI 3) dX10_figures_38 rfl ?_
    refine k_icmp_ge (tgt := 95) (pc' := 42) dX10_figures_39 rfl (fun zz_ => absurd zz_ (by decide)) (fun _ => ?_)
    refine k_aload_n (pc' := 43) dX10_figures_42 rfl ?_
    refine p_get (pc' := 46) clX10 (Nat.le_of_ble_eq_true rfl) fl_RX10_242 dX10_figures_43 (by first | assumption | decide | omega) (by first | rfl | assumption) rfl ?_
    refine k_if_ne (tgt := 95) (pc' := 49) dX10_figures_46 rfl (fun _ => ?_) (fun zz_ => absurd zz_ (show ¬ (1 : Int32) = 0 by decide))
    refine k_iload_n (pc' := 96) dX10_figures_95 rfl ?_
    refine p_ireturn dX10_figures_96 rfl ?_
    exact ⟨rfl, rfl⟩
theorem stR_102 {S : Nat} {s : PS} {t : Nat → Int32} : va_up (stR G σ N D S z a tb s) 102 (aI G 36 t) = stR G σ N D S z a tb (t, s.2) := by
  unfold stR
  rw [show aI G 36 t = aI G (mLen 102) t from rfl, pMa (by decide), up_up]
theorem tM_le {S : Nat} {by' : Nat → Int32} : ∀ n v p, p ≤ S → (tM S by' n v p).2 ≤ S := by
  intro n
  induction n with
  | zero => intro v p h; exact h
  | succ n ih =>
    intro v p h
    unfold tM
    by_cases hc : dg (bA S by' p)
    · rw [if_pos hc]
      refine ih _ _ ?_
      rcases Nat.lt_or_ge p S with h1 | h1
      · exact h1
      · exfalso
        have e : bA S by' p = -1 := if_neg (by omega)
        rw [e] at hc
        exact absurd hc (by decide)
    · rw [if_neg hc]; exact h
/-- read(): a fault at f, or N and far as told -/
theorem m_readBad0 (hN6 : N ≤ 6) (hT : T ≤ 80) (hb : ¬ (50 ≤ (bA T (a 90) 0).toInt ∧ (bA T (a 90) 0).toInt ≤ 54)) : ConP G mX10_read 3 [.ref (adr G 84)] (putM G σ N D T z a tb) (rI (-1000 - nI 0) (stR G σ N D T z a tb (zf 36 (a 102), 0, true))) := by
  have e0 : ∀ w : Int32, putM G σ N D 0 (va_up (va_up (va_up z 27 (nI T)) 26 (nI 0)) 28 w) a tb = putM G σ N D 0 (va_up (va_up (va_up z 27 (nI T)) 26 (nI 0)) 28 w) (va_up a 102 (a 102)) tb := fun w => by rw [show va_up a 102 (a 102) = a from up_id rfl]
  refine ConP.of rfl (Nat.le_of_ble_eq_true rfl) ?_
  refine k_aload_n (pc' := 1) dX10_read_0 rfl ?_
  refine k_aload_n (pc' := 2) dX10_read_1 rfl ?_
  refine p_get (pc' := 5) clX10 (Nat.le_of_ble_eq_true rfl) fl_RX10_74 dX10_read_2 (by first | assumption | decide | omega) (by first | rfl | assumption) rfl ?_
  refine p_putI (pc' := 8) clX10 (Nat.le_of_ble_eq_true rfl) fl_RX10_239 dX10_read_5 rfl (Or.inl rfl) (by first | assumption | decide | omega) (by first | rfl | assumption) (Nat.le_of_ble_eq_true rfl) (by exact pMz27) ?_
  refine k_aload_n (pc' := 9) dX10_read_8 rfl ?_
  refine k_iconst (pc' := 10) (v := nI 0) dX10_read_9 rfl ?_
  refine p_putI (pc' := 13) clX10 (Nat.le_of_ble_eq_true rfl) fl_RX10_74 dX10_read_10 rfl (Or.inl rfl) (by first | assumption | decide | omega) (by first | rfl | assumption) (Nat.le_of_ble_eq_true rfl) (by exact pMz8) ?_
  refine k_aload_n (pc' := 14) dX10_read_13 rfl ?_
  refine k_iconst (pc' := 15) (v := nI 0) dX10_read_14 rfl ?_
  refine p_putI (pc' := 18) clX10 (Nat.le_of_ble_eq_true rfl) fl_RX10_236 dX10_read_15 rfl (Or.inl rfl) (by first | assumption | decide | omega) (by first | rfl | assumption) (Nat.le_of_ble_eq_true rfl) (by exact pMz26) ?_
  have hst : putM G σ N D 0 (va_up (va_up z 27 (nI T)) 26 (nI 0)) a tb = putM G σ N D 0 (va_up (va_up (va_up z 27 (nI T)) 26 (nI 0)) 28 (z 28)) a tb := by rw [show va_up (va_up (va_up z 27 (nI T)) 26 (nI 0)) 28 (z 28) = va_up (va_up z 27 (nI T)) 26 (nI 0) from up_id (by rw [up_n (by decide), up_n (by decide)])]
  have here0 : ConP G mX10_here 1 [.ref (adr G 84)] (putM G σ N D 0 (va_up (va_up z 27 (nI T)) 26 (nI 0)) a tb) (rI (bA T (a 90) 0) (putM G σ N D 0 (va_up (va_up z 27 (nI T)) 26 (nI 0)) a tb)) := by
    refine ConP.of rfl (Nat.le_of_ble_eq_true rfl) ?_
    by_cases h : 0 < T
    · refine k_aload_n (pc' := 1) dX10_here_0 rfl ?_
      refine p_get (pc' := 4) clX10 (Nat.le_of_ble_eq_true rfl) fl_RX10_236 dX10_here_1 (by first | assumption | decide | omega) (by first | rfl | assumption) rfl ?_
      refine k_aload_n (pc' := 5) dX10_here_4 rfl ?_
      refine p_get (pc' := 8) clX10 (Nat.le_of_ble_eq_true rfl) fl_RX10_239 dX10_here_5 (by first | assumption | decide | omega) (by first | rfl | assumption) rfl ?_
      refine k_icmp_ge (tgt := 23) (pc' := 11) dX10_here_8 rfl (fun zz_ => absurd zz_ (nI_ge h (by omega))) (fun _ => ?_)
      refine k_aload_n (pc' := 12) dX10_here_11 rfl ?_
      refine p_get (pc' := 15) clX10 (Nat.le_of_ble_eq_true rfl) fl_RX10_31 dX10_here_12 (by first | assumption | decide | omega) (by first | rfl | assumption) rfl ?_
      refine k_aload_n (pc' := 16) dX10_here_15 rfl ?_
      refine p_get (pc' := 19) clX10 (Nat.le_of_ble_eq_true rfl) fl_RX10_236 dX10_here_16 (by first | assumption | decide | omega) (by first | rfl | assumption) rfl ?_
      refine p_ialdN (pc' := 20) (k := 0) dX10_here_19 (by decide) rfl (by decide) (by simp only [mL90]; omega) ?_
      refine k_goto (tgt := 24) dX10_here_20 rfl ?_
      refine p_ireturn dX10_here_24 rfl ?_
      exact ⟨by unfold bA; rw [if_pos h], rfl⟩
    · refine k_aload_n (pc' := 1) dX10_here_0 rfl ?_
      refine p_get (pc' := 4) clX10 (Nat.le_of_ble_eq_true rfl) fl_RX10_236 dX10_here_1 (by first | assumption | decide | omega) (by first | rfl | assumption) rfl ?_
      refine k_aload_n (pc' := 5) dX10_here_4 rfl ?_
      refine p_get (pc' := 8) clX10 (Nat.le_of_ble_eq_true rfl) fl_RX10_239 dX10_here_5 (by first | assumption | decide | omega) (by first | rfl | assumption) rfl ?_
      refine k_icmp_ge (tgt := 23) (pc' := 11) dX10_here_8 rfl (fun _ => ?_) (fun zz_ => absurd (nI_le (by omega) (by omega)) zz_)
      refine k_iconst (pc' := 24) (v := -1) dX10_here_23 rfl ?_
      refine p_ireturn dX10_here_24 rfl ?_
      exact ⟨by unfold bA; rw [if_neg h], rfl⟩
  refine k_aload_n (pc' := 19) dX10_read_18 rfl ?_
  refine k_aload_n (pc' := 20) dX10_read_19 rfl ?_
  refine p_vI (ν := mX10_here) (pc' := 23) dX10_read_20 ml_RX10_245 mo_X10_here mv_X10_here clX10 (Nat.le_of_ble_eq_true rfl) rfl rfl (Nat.le_of_ble_eq_true rfl) (by first | assumption | decide | omega) (by first | rfl | assumption) (by decide) (here0) ?_
  refine k_i2l (pc' := 24) dX10_read_23 rfl ?_
  refine k_ldc2 (pc' := 27)  dX10_read_24 cl_RX10_252 ?_
  refine k_ldc2 (pc' := 30)  dX10_read_27 cl_RX10_254 ?_
  refine p_sI (ν := mX10_in) (pc' := 33) dX10_read_30 ml_RX10_77 mo_X10_in ms_X10_in (Nat.le_of_ble_eq_true rfl) rfl rfl (Nat.le_of_ble_eq_true rfl) (by decide) (c_in) ?_
  refine k_if_ne (tgt := 40) (pc' := 36) dX10_read_33 rfl (fun zz_ => absurd (by rw [bI_eq, in_w (p := 50) (q := 54) rfl rfl]; exact hb) zz_) (fun _ => ?_)
  refine k_iconst (pc' := 37) (v := nI 1) dX10_read_36 rfl ?_
  refine k_goto (tgt := 41) dX10_read_37 rfl ?_
  refine p_putI (pc' := 44) clX10 (Nat.le_of_ble_eq_true rfl) fl_RX10_242 dX10_read_41 rfl (Or.inr ⟨rfl, Or.inr rfl⟩) (by first | assumption | decide | omega) (by first | rfl | assumption) (Nat.le_of_ble_eq_true rfl) (by exact pMz28) ?_
  refine k_aload_n (pc' := 45) dX10_read_44 rfl ?_
  refine p_get (pc' := 48) clX10 (Nat.le_of_ble_eq_true rfl) fl_RX10_242 dX10_read_45 (by first | assumption | decide | omega) (by first | rfl | assumption) rfl ?_
  refine k_if_eq (tgt := 55) (pc' := 51) dX10_read_48 rfl (fun zz_ => absurd zz_ (show ¬ (1 : Int32) = 0 by decide)) (fun _ => ?_)
  refine k_iconst (pc' := 52) (v := nI 0) dX10_read_51 rfl ?_
  refine k_goto (tgt := 62) dX10_read_52 rfl ?_
  refine k_istore_n (pc' := 63) dX10_read_62 (Nat.le_of_ble_eq_true rfl) rfl ?_
  refine k_aload_n (pc' := 64) dX10_read_63 rfl ?_
  refine k_dup (pc' := 65) dX10_read_64 rfl ?_
  refine p_get (pc' := 68) clX10 (Nat.le_of_ble_eq_true rfl) fl_RX10_236 dX10_read_65 (by first | assumption | decide | omega) (by first | rfl | assumption) rfl ?_
  refine k_aload_n (pc' := 69) dX10_read_68 rfl ?_
  refine p_get (pc' := 72) clX10 (Nat.le_of_ble_eq_true rfl) fl_RX10_242 dX10_read_69 (by first | assumption | decide | omega) (by first | rfl | assumption) rfl ?_
  refine k_if_eq (tgt := 79) (pc' := 75) dX10_read_72 rfl (fun zz_ => absurd zz_ (show ¬ (1 : Int32) = 0 by decide)) (fun _ => ?_)
  refine k_iconst (pc' := 76) (v := nI 0) dX10_read_75 rfl ?_
  refine k_goto (tgt := 80) dX10_read_76 rfl ?_
  refine k_iadd (pc' := 81) (v := nI 0) dX10_read_80 (nI_add _ _) ?_
  refine p_putI (pc' := 84) (σ1 := stR G σ N D T z a tb (a 102, 0, true)) clX10 (Nat.le_of_ble_eq_true rfl) fl_RX10_236 dX10_read_81 rfl (Or.inl rfl) (by first | assumption | decide | omega) (by first | rfl | assumption) (Nat.le_of_ble_eq_true rfl) (by exact (by rw [pMz26, up_c (by decide), up_up, show (nI 1 : Int32) = 1 from rfl, e0]; rfl)) ?_
  refine k_iconst (pc' := 85) (v := nI 0) dX10_read_84 rfl ?_
  refine k_istore_n (pc' := 86) dX10_read_85 (Nat.le_of_ble_eq_true rfl) rfl ?_
  refine loopU (fun k t => ∀ y1 y2 , OkP G mX10_read 3 (rI (-1000 - nI 0) (stR G σ N D T z a tb (zf 36 (a 102), 0, true))) 86 [some (.ref (adr G 84)), some (.int (nI 0)), some (.int (nI k)), y1, y2] [] (stR G σ N D T z a tb (t, 0, true))) (fun k t => upd t k (nI 0)) 36 0 36 (a 102) (by omega) ?_ ?_ none none
  · intro k t _ hk ih y1 y2
    refine k_iload_n (pc' := 87) dX10_read_86 rfl ?_
    refine k_bipush (pc' := 89) (v := nI 36) dX10_read_87 rfl ?_
    refine k_icmp_ge (tgt := 105) (pc' := 92) dX10_read_89 rfl (fun zz_ => absurd zz_ (nI_ge (by omega) (by omega))) (fun _ => ?_)
    refine k_aload_n (pc' := 93) dX10_read_92 rfl ?_
    refine p_get (pc' := 96) clX10 (Nat.le_of_ble_eq_true rfl) fl_RX10_68 dX10_read_93 (by first | assumption | decide | omega) (by first | rfl | assumption) rfl ?_
    refine k_iload_n (pc' := 97) dX10_read_96 rfl ?_
    refine k_iconst (pc' := 98) (v := nI 0) dX10_read_97 rfl ?_
    refine p_iastN (pc' := 99) (σ1 := stR G σ N D T z a tb (upd t k (nI 0), 0, true)) dX10_read_98 (by first | assumption | decide | omega) (by first | rfl | assumption) (by first | decide | omega) (by first | omega | (simp only [mL85, mL86, mL87, mL88, mL89, mL90, mL91, mL92, mL93, mL94, mL95, mL96, mL97, mL98, mL100, mL101, mL102, mL103]; omega)) (by exact stR_102) ?_
    refine k_iinc (pc' := 102) (v := nI (k + 1)) dX10_read_99 rfl (nI_inc _) (Nat.le_of_ble_eq_true rfl) rfl ?_
    refine k_goto (tgt := 86) dX10_read_102 rfl ?_
    exact ih _ _
  · intro y1 y2
    refine k_iload_n (pc' := 87) dX10_read_86 rfl ?_
    refine k_bipush (pc' := 89) (v := nI 36) dX10_read_87 rfl ?_
    refine k_icmp_ge (tgt := 105) (pc' := 92) dX10_read_89 rfl (fun _ => ?_) (fun zz_ => absurd (nI_le (by omega) (by omega)) zz_)
    refine k_iconst (pc' := 106) (v := nI 1) dX10_read_105 rfl ?_
    refine k_istore_n (pc' := 107) dX10_read_106 (Nat.le_of_ble_eq_true rfl) rfl ?_
    refine k_iload_n (pc' := 108) dX10_read_107 rfl ?_
    refine k_iload_n (pc' := 109) dX10_read_108 rfl ?_
    refine k_icmp_ge (tgt := 192) (pc' := 112) dX10_read_109 rfl (fun _ => ?_) (fun zz_ => absurd (by decide) zz_)
    refine k_aload_n (pc' := 193) dX10_read_192 rfl ?_
    refine p_get (pc' := 196) clX10 (Nat.le_of_ble_eq_true rfl) fl_RX10_242 dX10_read_193 (by first | assumption | decide | omega) (by first | rfl | assumption) rfl ?_
    refine k_if_ne (tgt := 210) (pc' := 199) dX10_read_196 rfl (fun _ => ?_) (fun zz_ => absurd zz_ (show ¬ (1 : Int32) = 0 by decide))
    refine k_sipush (pc' := 213) (v := -1000) dX10_read_210 rfl ?_
    refine k_aload_n (pc' := 214) dX10_read_213 rfl ?_
    refine p_get (pc' := 217) clX10 (Nat.le_of_ble_eq_true rfl) fl_RX10_236 dX10_read_214 (by first | assumption | decide | omega) (by first | rfl | assumption) rfl ?_
    refine k_isub (pc' := 218) (v := -1000 - nI 0) dX10_read_217 rfl ?_
    refine p_ireturn dX10_read_218 rfl ?_
    exact ⟨rfl, rfl⟩
theorem m_read (hN : 2 ≤ N) (hN6 : N ≤ 6) (hT : T ≤ 80) (hD : D ≤ 8) {P : Nat} (hP : 2 ≤ P) (hP6 : P ≤ 6) (hb : bA T (a 90) 0 = nI (48 + P)) : ConP G mX10_read 3 [.ref (adr G 84)] (putM G σ N D T z a tb) (fun v σ' => ((mrA P T (a 90) (a 102)).2.2 = true ∨ ¬ (mrA P T (a 90) (a 102)).2.1 = T) ∧ rI (-1000 - nI (mrA P T (a 90) (a 102)).2.1) (stR G σ N D T z a tb (mrA P T (a 90) (a 102))) v σ' ∨ ((mrA P T (a 90) (a 102)).2.2 = false ∧ (mrA P T (a 90) (a 102)).2.1 = T ∧ ∃ z', (∀ k, k ≠ 18 → k ≠ 26 → k ≠ 27 → k ≠ 28 → z' k = z k) ∧ rI (nI P) (putM G σ P (mDo P D (va_up z 18 (nI N)) (mRdA P a (mrA P T (a 90) (a 102)).1)).1 0 z' (mDo P D (va_up z 18 (nI N)) (mRdA P a (mrA P T (a 90) (a 102)).1)).2 tb) v σ')) := by
  have hT1 : 1 ≤ T := by
    rcases Nat.lt_or_ge 0 T with h | h
    · exact h
    · exfalso
      have e : bA T (a 90) 0 = -1 := if_neg (by omega)
      rw [e] at hb
      have := congrArg Int32.toInt hb
      rw [nI_e (by omega), im1] at this
      omega
  have e0 : ∀ w : Int32, putM G σ N D 0 (va_up (va_up (va_up z 27 (nI T)) 26 (nI 0)) 28 w) a tb = putM G σ N D 0 (va_up (va_up (va_up z 27 (nI T)) 26 (nI 0)) 28 w) (va_up a 102 (a 102)) tb := fun w => by rw [show va_up a 102 (a 102) = a from up_id rfl]
  generalize hR : mrA P T (a 90) (a 102) = R
  generalize hQ : (fun v σ' => (R.2.2 = true ∨ ¬ R.2.1 = T) ∧ rI (-1000 - nI R.2.1) (stR G σ N D T z a tb R) v σ' ∨ (R.2.2 = false ∧ R.2.1 = T ∧ ∃ z', (∀ k, k ≠ 18 → k ≠ 26 → k ≠ 27 → k ≠ 28 → z' k = z k) ∧ rI (nI P) (putM G σ P (mDo P D (va_up z 18 (nI N)) (mRdA P a R.1)).1 0 z' (mDo P D (va_up z 18 (nI N)) (mRdA P a R.1)).2 tb) v σ')) = Qf
  refine ConP.of rfl (Nat.le_of_ble_eq_true rfl) ?_
  refine k_aload_n (pc' := 1) dX10_read_0 rfl ?_
  refine k_aload_n (pc' := 2) dX10_read_1 rfl ?_
  refine p_get (pc' := 5) clX10 (Nat.le_of_ble_eq_true rfl) fl_RX10_74 dX10_read_2 (by first | assumption | decide | omega) (by first | rfl | assumption) rfl ?_
  refine p_putI (pc' := 8) clX10 (Nat.le_of_ble_eq_true rfl) fl_RX10_239 dX10_read_5 rfl (Or.inl rfl) (by first | assumption | decide | omega) (by first | rfl | assumption) (Nat.le_of_ble_eq_true rfl) (by exact pMz27) ?_
  refine k_aload_n (pc' := 9) dX10_read_8 rfl ?_
  refine k_iconst (pc' := 10) (v := nI 0) dX10_read_9 rfl ?_
  refine p_putI (pc' := 13) clX10 (Nat.le_of_ble_eq_true rfl) fl_RX10_74 dX10_read_10 rfl (Or.inl rfl) (by first | assumption | decide | omega) (by first | rfl | assumption) (Nat.le_of_ble_eq_true rfl) (by exact pMz8) ?_
  refine k_aload_n (pc' := 14) dX10_read_13 rfl ?_
  refine k_iconst (pc' := 15) (v := nI 0) dX10_read_14 rfl ?_
  refine p_putI (pc' := 18) clX10 (Nat.le_of_ble_eq_true rfl) fl_RX10_236 dX10_read_15 rfl (Or.inl rfl) (by first | assumption | decide | omega) (by first | rfl | assumption) (Nat.le_of_ble_eq_true rfl) (by exact pMz26) ?_
  have here0 : ConP G mX10_here 1 [.ref (adr G 84)] (putM G σ N D 0 (va_up (va_up z 27 (nI T)) 26 (nI 0)) a tb) (rI (bA T (a 90) 0) (putM G σ N D 0 (va_up (va_up z 27 (nI T)) 26 (nI 0)) a tb)) := by
    refine ConP.of rfl (Nat.le_of_ble_eq_true rfl) ?_
    refine k_aload_n (pc' := 1) dX10_here_0 rfl ?_
    refine p_get (pc' := 4) clX10 (Nat.le_of_ble_eq_true rfl) fl_RX10_236 dX10_here_1 (by first | assumption | decide | omega) (by first | rfl | assumption) rfl ?_
    refine k_aload_n (pc' := 5) dX10_here_4 rfl ?_
    refine p_get (pc' := 8) clX10 (Nat.le_of_ble_eq_true rfl) fl_RX10_239 dX10_here_5 (by first | assumption | decide | omega) (by first | rfl | assumption) rfl ?_
    refine k_icmp_ge (tgt := 23) (pc' := 11) dX10_here_8 rfl (fun zz_ => absurd zz_ (nI_ge hT1 (by omega))) (fun _ => ?_)
    refine k_aload_n (pc' := 12) dX10_here_11 rfl ?_
    refine p_get (pc' := 15) clX10 (Nat.le_of_ble_eq_true rfl) fl_RX10_31 dX10_here_12 (by first | assumption | decide | omega) (by first | rfl | assumption) rfl ?_
    refine k_aload_n (pc' := 16) dX10_here_15 rfl ?_
    refine p_get (pc' := 19) clX10 (Nat.le_of_ble_eq_true rfl) fl_RX10_236 dX10_here_16 (by first | assumption | decide | omega) (by first | rfl | assumption) rfl ?_
    refine p_ialdN (pc' := 20) (k := 0) dX10_here_19 (by decide) rfl (by decide) (by simp only [mL90]; omega) ?_
    refine k_goto (tgt := 24) dX10_here_20 rfl ?_
    refine p_ireturn dX10_here_24 rfl ?_
    exact ⟨by unfold bA; rw [if_pos (show 0 < T from hT1)], rfl⟩
  refine k_aload_n (pc' := 19) dX10_read_18 rfl ?_
  refine k_aload_n (pc' := 20) dX10_read_19 rfl ?_
  refine p_vI (ν := mX10_here) (pc' := 23) dX10_read_20 ml_RX10_245 mo_X10_here mv_X10_here clX10 (Nat.le_of_ble_eq_true rfl) rfl rfl (Nat.le_of_ble_eq_true rfl) (by first | assumption | decide | omega) (by first | rfl | assumption) (by decide) (here0) ?_
  refine k_i2l (pc' := 24) dX10_read_23 rfl ?_
  refine k_ldc2 (pc' := 27)  dX10_read_24 cl_RX10_252 ?_
  refine k_ldc2 (pc' := 30)  dX10_read_27 cl_RX10_254 ?_
  refine p_sI (ν := mX10_in) (pc' := 33) dX10_read_30 ml_RX10_77 mo_X10_in ms_X10_in (Nat.le_of_ble_eq_true rfl) rfl rfl (Nat.le_of_ble_eq_true rfl) (by decide) (c_in) ?_
  refine k_if_ne (tgt := 40) (pc' := 36) dX10_read_33 rfl (fun _ => ?_) (fun zz_ => absurd zz_ (by rw [bI_ne, in_w (p := 50) (q := 54) rfl rfl, hb, nI_e (by omega)]; omega))
  refine k_iconst (pc' := 41) (v := nI 0) dX10_read_40 rfl ?_
  refine p_putI (pc' := 44) (σ1 := stR G σ N D T z a tb (a 102, 0, false)) clX10 (Nat.le_of_ble_eq_true rfl) fl_RX10_242 dX10_read_41 rfl (Or.inr ⟨rfl, Or.inl rfl⟩) (by first | assumption | decide | omega) (by first | rfl | assumption) (Nat.le_of_ble_eq_true rfl) (by exact (by rw [pMz28, show (nI 0 : Int32) = 0 from rfl]; exact e0 0)) ?_
  refine k_aload_n (pc' := 45) dX10_read_44 rfl ?_
  refine p_get (pc' := 48) clX10 (Nat.le_of_ble_eq_true rfl) fl_RX10_242 dX10_read_45 (by first | assumption | decide | omega) (by first | rfl | assumption) rfl ?_
  refine k_if_eq (tgt := 55) (pc' := 51) dX10_read_48 rfl (fun _ => ?_) (fun zz_ => absurd rfl zz_)
  refine k_aload_n (pc' := 56) dX10_read_55 rfl ?_
  refine p_vI (ν := mX10_here) (pc' := 59) dX10_read_56 ml_RX10_245 mo_X10_here mv_X10_here clX10 (Nat.le_of_ble_eq_true rfl) rfl rfl (Nat.le_of_ble_eq_true rfl) (by first | assumption | decide | omega) (by first | rfl | assumption) (by decide) (c_here (s := (a 102, 0, false)) hT (show 0 < 1000 by decide)) ?_
  rw [hb]
  refine k_bipush (pc' := 61) (v := nI 48) dX10_read_59 rfl ?_
  refine k_isub (pc' := 62) (v := nI P) dX10_read_61 (by rw [pk_sub (by omega), show 48 + P - 48 = P by omega]) ?_
  refine k_istore_n (pc' := 63) dX10_read_62 (Nat.le_of_ble_eq_true rfl) rfl ?_
  refine k_aload_n (pc' := 64) dX10_read_63 rfl ?_
  refine k_dup (pc' := 65) dX10_read_64 rfl ?_
  refine p_get (pc' := 68) clX10 (Nat.le_of_ble_eq_true rfl) fl_RX10_236 dX10_read_65 (by first | assumption | decide | omega) (by first | rfl | assumption) rfl ?_
  refine k_aload_n (pc' := 69) dX10_read_68 rfl ?_
  refine p_get (pc' := 72) clX10 (Nat.le_of_ble_eq_true rfl) fl_RX10_242 dX10_read_69 (by first | assumption | decide | omega) (by first | rfl | assumption) rfl ?_
  refine k_if_eq (tgt := 79) (pc' := 75) dX10_read_72 rfl (fun _ => ?_) (fun zz_ => absurd rfl zz_)
  refine k_iconst (pc' := 80) (v := nI 1) dX10_read_79 rfl ?_
  refine k_iadd (pc' := 81) (v := nI 1) dX10_read_80 (nI_add _ _) ?_
  refine p_putI (pc' := 84) (σ1 := stR G σ N D T z a tb (a 102, 1, false)) clX10 (Nat.le_of_ble_eq_true rfl) fl_RX10_236 dX10_read_81 rfl (Or.inl rfl) (by first | assumption | decide | omega) (by first | rfl | assumption) (Nat.le_of_ble_eq_true rfl) (by exact (stR_26 (s := (a 102, 0, false)))) ?_
  refine k_iconst (pc' := 85) (v := nI 0) dX10_read_84 rfl ?_
  refine k_istore_n (pc' := 86) dX10_read_85 (Nat.le_of_ble_eq_true rfl) rfl ?_
  have k0 := loopU (fun k t => ∀ y1 y2, OkP G mX10_read 3 Qf 86 [some (.ref (adr G 84)), some (.int (nI P)), some (.int (nI k)), y1, y2] [] (stR G σ N D T z a tb (t, 1, false))) (fun k t => upd t k (nI 0)) 36 0 36 (a 102) (by omega) ?_ ?_ none none
  · exact k0
  · intro k t _ hk ih y1 y2
    refine k_iload_n (pc' := 87) dX10_read_86 rfl ?_
    refine k_bipush (pc' := 89) (v := nI 36) dX10_read_87 rfl ?_
    refine k_icmp_ge (tgt := 105) (pc' := 92) dX10_read_89 rfl (fun zz_ => absurd zz_ (nI_ge (by omega) (by omega))) (fun _ => ?_)
    refine k_aload_n (pc' := 93) dX10_read_92 rfl ?_
    refine p_get (pc' := 96) clX10 (Nat.le_of_ble_eq_true rfl) fl_RX10_68 dX10_read_93 (by first | assumption | decide | omega) (by first | rfl | assumption) rfl ?_
    refine k_iload_n (pc' := 97) dX10_read_96 rfl ?_
    refine k_iconst (pc' := 98) (v := nI 0) dX10_read_97 rfl ?_
    refine p_iastN (pc' := 99) (σ1 := stR G σ N D T z a tb (upd t k (nI 0), 1, false)) dX10_read_98 (by first | assumption | decide | omega) (by first | rfl | assumption) (by first | decide | omega) (by first | omega | (simp only [mL85, mL86, mL87, mL88, mL89, mL90, mL91, mL92, mL93, mL94, mL95, mL96, mL97, mL98, mL100, mL101, mL102, mL103]; omega)) (by exact stR_102) ?_
    refine k_iinc (pc' := 102) (v := nI (k + 1)) dX10_read_99 rfl (nI_inc _) (Nat.le_of_ble_eq_true rfl) rfl ?_
    refine k_goto (tgt := 86) dX10_read_102 rfl ?_
    exact ih _ _
  intro y1 y2
  show OkP G mX10_read 3 Qf 86 [some (.ref (adr G 84)), some (.int (nI P)), some (.int (nI 36)), y1, y2] [] (stR G σ N D T z a tb (zf 36 (a 102), 1, false))
  refine k_iload_n (pc' := 87) dX10_read_86 rfl ?_
  refine k_bipush (pc' := 89) (v := nI 36) dX10_read_87 rfl ?_
  refine k_icmp_ge (tgt := 105) (pc' := 92) dX10_read_89 rfl (fun _ => ?_) (fun zz_ => absurd (nI_le (by omega) (by omega)) zz_)
  refine k_iconst (pc' := 106) (v := nI 1) dX10_read_105 rfl ?_
  refine k_istore_n (pc' := 107) dX10_read_106 (Nat.le_of_ble_eq_true rfl) rfl ?_
  have bad1 : ∀ m i j (s : PS), s.2.2 = true → upn m j (mr1 T (a 90) i) s = s := by
    intro m
    induction m with
    | zero => intros; rfl
    | succ m ih =>
      intro i j s hs
      have e : mr1 T (a 90) i j s = s := if_pos hs
      show upn m (j + 1) (mr1 T (a 90) i) (mr1 T (a 90) i j s) = s
      rw [e]
      exact ih i (j + 1) s hs
  have bad2 : ∀ n i (s : PS), s.2.2 = true → upn n i (mr2 T (a 90)) s = s := by
    intro n
    induction n with
    | zero => intros; rfl
    | succ n ih =>
      intro i s hs
      have e : mr2 T (a 90) i s = s := bad1 _ _ _ s hs
      show upn n (i + 1) (mr2 T (a 90)) (mr2 T (a 90) i s) = s
      rw [e]
      exact ih (i + 1) s hs
  -- the end of it all, at 192
  have fin : ∀ y2 y3 y4, R.2.1 ≤ T → OkP G mX10_read 3 Qf 192 [some (.ref (adr G 84)), some (.int (nI P)), y2, y3, y4] [] (stR G σ N D T z a tb R) := by
    intro y2 y3 y4 hle
    cases hw : R.2.2 with
    | true =>
      have hz : ¬ bI (R.2.2 = true) = 0 := by rw [bI_ne]; exact hw
      refine k_aload_n (pc' := 193) dX10_read_192 rfl ?_
      refine p_get (pc' := 196) clX10 (Nat.le_of_ble_eq_true rfl) fl_RX10_242 dX10_read_193 (by first | assumption | decide | omega) (by first | rfl | assumption) rfl ?_
      refine k_if_ne (tgt := 210) (pc' := 199) dX10_read_196 rfl (fun _ => ?_) (fun zz_ => absurd zz_ hz)
      refine k_sipush (pc' := 213) (v := -1000) dX10_read_210 rfl ?_
      refine k_aload_n (pc' := 214) dX10_read_213 rfl ?_
      refine p_get (pc' := 217) clX10 (Nat.le_of_ble_eq_true rfl) fl_RX10_236 dX10_read_214 (by first | assumption | decide | omega) (by first | rfl | assumption) rfl ?_
      refine k_isub (pc' := 218) (v := -1000 - nI R.2.1) dX10_read_217 rfl ?_
      refine p_ireturn dX10_read_218 rfl ?_
      rw [← hQ]
      exact Or.inl ⟨Or.inl hw, rfl, rfl⟩
    | false =>
      have hz : bI (R.2.2 = true) = 0 := by rw [bI_eq, hw]; decide
      by_cases he : R.2.1 = T
      · refine k_aload_n (pc' := 193) dX10_read_192 rfl ?_
        refine p_get (pc' := 196) clX10 (Nat.le_of_ble_eq_true rfl) fl_RX10_242 dX10_read_193 (by first | assumption | decide | omega) (by first | rfl | assumption) rfl ?_
        refine k_if_ne (tgt := 210) (pc' := 199) dX10_read_196 rfl (fun zz_ => absurd hz zz_) (fun _ => ?_)
        refine k_aload_n (pc' := 200) dX10_read_199 rfl ?_
        refine p_get (pc' := 203) clX10 (Nat.le_of_ble_eq_true rfl) fl_RX10_236 dX10_read_200 (by first | assumption | decide | omega) (by first | rfl | assumption) rfl ?_
        refine k_aload_n (pc' := 204) dX10_read_203 rfl ?_
        refine p_get (pc' := 207) clX10 (Nat.le_of_ble_eq_true rfl) fl_RX10_239 dX10_read_204 (by first | assumption | decide | omega) (by first | rfl | assumption) rfl ?_
        refine k_icmp_eq (tgt := 219) (pc' := 210) dX10_read_207 rfl (fun _ => ?_) (fun zz_ => absurd (by show nI R.2.1 = nI T; rw [he]) zz_)
        unfold stR
        refine k_aload_n (pc' := 220) dX10_read_219 rfl ?_
        refine p_vV (ν := mX10_ahead) (pc' := 223) dX10_read_220 ml_RX10_112 mo_X10_ahead mv_X10_ahead clX10 (Nat.le_of_ble_eq_true rfl) rfl rfl (Nat.le_of_ble_eq_true rfl) (by first | assumption | decide | omega) (by first | rfl | assumption) (by decide) (c_ahead) ?_
        refine k_aload_n (pc' := 224) dX10_read_223 rfl ?_
        refine k_iload_n (pc' := 225) dX10_read_224 rfl ?_
        refine p_vV (ν := mX10_becomes) (pc' := 228) dX10_read_225 ml_RX10_140 mo_X10_becomes mv_X10_becomes clX10 (Nat.le_of_ble_eq_true rfl) rfl rfl (Nat.le_of_ble_eq_true rfl) (by first | assumption | decide | omega) (by first | rfl | assumption) (by decide) (c_becomes hP6) ?_
        refine k_aload_n (pc' := 229) dX10_read_228 rfl ?_
        refine p_get (pc' := 232) clX10 (Nat.le_of_ble_eq_true rfl) fl_RX10_68 dX10_read_229 (by first | assumption | decide | omega) (by first | rfl | assumption) rfl ?_
        refine k_aload_n (pc' := 233) dX10_read_232 rfl ?_
        refine p_get (pc' := 236) clX10 (Nat.le_of_ble_eq_true rfl) fl_RX10_15 dX10_read_233 (by first | assumption | decide | omega) (by first | rfl | assumption) rfl ?_
        refine p_sV (ν := mX10_copies) (pc' := 239) dX10_read_236 ml_RX10_96 mo_X10_copies ms_X10_copies (Nat.le_of_ble_eq_true rfl) rfl rfl (Nat.le_of_ble_eq_true rfl) (by decide) (c_copies (p := 102) (q := 85) (n := 36) (m := 36) (f := R.1) (g := a 85) (by decide) (by decide) (by decide) rfl rfl (by decide) (by decide)) ?_
        rw [show aI G 36 (cpA 36 R.1 (a 85)) = aI G (mLen 85) (cpA 36 R.1 (a 85)) from rfl, pMa (by decide)]
        refine k_aload_n (pc' := 240) dX10_read_239 rfl ?_
        refine p_vI (ν := mX10_done) (pc' := 243) dX10_read_240 ml_RX10_119 mo_X10_done mv_X10_done clX10 (Nat.le_of_ble_eq_true rfl) rfl rfl (Nat.le_of_ble_eq_true rfl) (by first | assumption | decide | omega) (by first | rfl | assumption) (by decide) (c_done hP hP6 hD) ?_
        refine k_pop (pc' := 244) dX10_read_243 rfl ?_
        refine k_aload_n (pc' := 245) dX10_read_244 rfl ?_
        refine p_get (pc' := 248) clX10 (Nat.le_of_ble_eq_true rfl) fl_RX10_9 dX10_read_245 (by first | assumption | decide | omega) (by first | rfl | assumption) rfl ?_
        refine p_ireturn dX10_read_248 rfl ?_
        rw [← hQ]
        refine Or.inr ⟨hw, he, va_up (va_up (va_up (va_up z 27 (nI T)) 26 (nI R.2.1)) 28 (bI (R.2.2 = true))) 18 (nI N), fun k h1 h2 h3 h4 => ?_, rfl, ?_⟩
        · rw [up_n h1, up_n h4, up_n h2, up_n h3]
        · have ez : ∀ A, mDo P D (va_up (va_up (va_up (va_up z 27 (nI T)) 26 (nI R.2.1)) 28 (bI (R.2.2 = true))) 18 (nI N)) A = mDo P D (va_up z 18 (nI N)) A := fun A => rfl
          rw [ez]
          rfl
      · refine k_aload_n (pc' := 193) dX10_read_192 rfl ?_
        refine p_get (pc' := 196) clX10 (Nat.le_of_ble_eq_true rfl) fl_RX10_242 dX10_read_193 (by first | assumption | decide | omega) (by first | rfl | assumption) rfl ?_
        refine k_if_ne (tgt := 210) (pc' := 199) dX10_read_196 rfl (fun zz_ => absurd hz zz_) (fun _ => ?_)
        refine k_aload_n (pc' := 200) dX10_read_199 rfl ?_
        refine p_get (pc' := 203) clX10 (Nat.le_of_ble_eq_true rfl) fl_RX10_236 dX10_read_200 (by first | assumption | decide | omega) (by first | rfl | assumption) rfl ?_
        refine k_aload_n (pc' := 204) dX10_read_203 rfl ?_
        refine p_get (pc' := 207) clX10 (Nat.le_of_ble_eq_true rfl) fl_RX10_239 dX10_read_204 (by first | assumption | decide | omega) (by first | rfl | assumption) rfl ?_
        refine k_icmp_eq (tgt := 219) (pc' := 210) dX10_read_207 rfl (fun zz_ => absurd zz_ (by show ¬ nI R.2.1 = nI T; rw [nI_eq (by omega) (by omega)]; exact he)) (fun _ => ?_)
        refine k_sipush (pc' := 213) (v := -1000) dX10_read_210 rfl ?_
        refine k_aload_n (pc' := 214) dX10_read_213 rfl ?_
        refine p_get (pc' := 217) clX10 (Nat.le_of_ble_eq_true rfl) fl_RX10_236 dX10_read_214 (by first | assumption | decide | omega) (by first | rfl | assumption) rfl ?_
        refine k_isub (pc' := 218) (v := -1000 - nI R.2.1) dX10_read_217 rfl ?_
        refine p_ireturn dX10_read_218 rfl ?_
        rw [← hQ]
        exact Or.inl ⟨Or.inr he, rfl, rfl⟩
  have outer : ∀ n i (s : PS), i + n = P → 1 ≤ i → s.2.1 ≤ T → (s.2.2 = false) → upn n i (mr2 T (a 90)) s = R → ∀ y3 y4, OkP G mX10_read 3 Qf 107 [some (.ref (adr G 84)), some (.int (nI P)), some (.int (nI i)), y3, y4] [] (stR G σ N D T z a tb s) := by
    intro n
    induction n with
    | zero =>
      intro i s hi _ hle hw he y3 y4
      have he : s = R := he
      subst he
      refine k_iload_n (pc' := 108) dX10_read_107 rfl ?_
      refine k_iload_n (pc' := 109) dX10_read_108 rfl ?_
      refine k_icmp_ge (tgt := 192) (pc' := 112) dX10_read_109 rfl (fun _ => ?_) (fun zz_ => absurd (nI_le (by omega) (by omega)) zz_)
      exact fin _ _ _ hle
    | succ n ih =>
      intro i s hi hi1 hle hw he y3 y4
      have he : upn n (i + 1) (mr2 T (a 90)) (mr2 T (a 90) i s) = R := he
      have hz : bI (s.2.2 = true) = 0 := by rw [bI_eq, hw]; decide
      refine k_iload_n (pc' := 108) dX10_read_107 rfl ?_
      refine k_iload_n (pc' := 109) dX10_read_108 rfl ?_
      refine k_icmp_ge (tgt := 192) (pc' := 112) dX10_read_109 rfl (fun zz_ => absurd zz_ (nI_ge (by omega) (by omega))) (fun _ => ?_)
      refine k_aload_n (pc' := 113) dX10_read_112 rfl ?_
      refine p_get (pc' := 116) clX10 (Nat.le_of_ble_eq_true rfl) fl_RX10_242 dX10_read_113 (by first | assumption | decide | omega) (by first | rfl | assumption) rfl ?_
      refine k_if_ne (tgt := 192) (pc' := 119) dX10_read_116 rfl (fun zz_ => absurd hz zz_) (fun _ => ?_)
      refine k_iconst (pc' := 120) (v := nI 0) dX10_read_119 rfl ?_
      refine k_istore_n (pc' := 121) dX10_read_120 (Nat.le_of_ble_eq_true rfl) rfl ?_
      have wrong : ∀ (j : Nat) (s : PS) (y4 : Option Value), s.2.2 = true → s = R → s.2.1 ≤ T → OkP G mX10_read 3 Qf 121 [some (.ref (adr G 84)), some (.int (nI P)), some (.int (nI i)), some (.int (nI j)), y4] [] (stR G σ N D T z a tb s) := by
        intro j s y4 hs hsR hle
        subst hsR
        have hz : ¬ bI (s.2.2 = true) = 0 := by rw [bI_ne]; exact hs
        have go : ∀ y, OkP G mX10_read 3 Qf 107 [some (.ref (adr G 84)), some (.int (nI P)), some (.int (nI (i + 1))), y, y4] [] (stR G σ N D T z a tb s) := by
          intro y
          by_cases hlt : i + 1 < P
          · refine k_iload_n (pc' := 108) dX10_read_107 rfl ?_
            refine k_iload_n (pc' := 109) dX10_read_108 rfl ?_
            refine k_icmp_ge (tgt := 192) (pc' := 112) dX10_read_109 rfl (fun zz_ => absurd zz_ (nI_ge (by omega) (by omega))) (fun _ => ?_)
            refine k_aload_n (pc' := 113) dX10_read_112 rfl ?_
            refine p_get (pc' := 116) clX10 (Nat.le_of_ble_eq_true rfl) fl_RX10_242 dX10_read_113 (by first | assumption | decide | omega) (by first | rfl | assumption) rfl ?_
            refine k_if_ne (tgt := 192) (pc' := 119) dX10_read_116 rfl (fun _ => ?_) (fun zz_ => absurd zz_ hz)
            exact fin _ _ _ hle
          · refine k_iload_n (pc' := 108) dX10_read_107 rfl ?_
            refine k_iload_n (pc' := 109) dX10_read_108 rfl ?_
            refine k_icmp_ge (tgt := 192) (pc' := 112) dX10_read_109 rfl (fun _ => ?_) (fun zz_ => absurd (nI_le (by omega) (by omega)) zz_)
            exact fin _ _ _ hle
        by_cases hlt : nI i ≤ nI j
        · refine k_iload_n (pc' := 122) dX10_read_121 rfl ?_
          refine k_iload_n (pc' := 123) dX10_read_122 rfl ?_
          refine k_icmp_ge (tgt := 186) (pc' := 126) dX10_read_123 rfl (fun _ => ?_) (fun zz_ => absurd hlt zz_)
          refine k_iinc (pc' := 189) (v := nI (i + 1)) dX10_read_186 rfl (nI_inc _) (Nat.le_of_ble_eq_true rfl) rfl ?_
          refine k_goto (tgt := 107) dX10_read_189 rfl ?_
          exact go _
        · refine k_iload_n (pc' := 122) dX10_read_121 rfl ?_
          refine k_iload_n (pc' := 123) dX10_read_122 rfl ?_
          refine k_icmp_ge (tgt := 186) (pc' := 126) dX10_read_123 rfl (fun zz_ => absurd zz_ hlt) (fun _ => ?_)
          refine k_aload_n (pc' := 127) dX10_read_126 rfl ?_
          refine p_get (pc' := 130) clX10 (Nat.le_of_ble_eq_true rfl) fl_RX10_242 dX10_read_127 (by first | assumption | decide | omega) (by first | rfl | assumption) rfl ?_
          refine k_if_ne (tgt := 186) (pc' := 133) dX10_read_130 rfl (fun _ => ?_) (fun zz_ => absurd zz_ hz)
          refine k_iinc (pc' := 189) (v := nI (i + 1)) dX10_read_186 rfl (nI_inc _) (Nat.le_of_ble_eq_true rfl) rfl ?_
          refine k_goto (tgt := 107) dX10_read_189 rfl ?_
          exact go _
      have inner : ∀ m j (s : PS), j + m = i → s.2.1 ≤ T → s.2.2 = false → upn n (i + 1) (mr2 T (a 90)) (upn m j (mr1 T (a 90) i) s) = R → ∀ y4, OkP G mX10_read 3 Qf 121 [some (.ref (adr G 84)), some (.int (nI P)), some (.int (nI i)), some (.int (nI j)), y4] [] (stR G σ N D T z a tb s) := by
        intro m
        induction m with
        | zero =>
          intro j s hj hle hw he y4
          refine k_iload_n (pc' := 122) dX10_read_121 rfl ?_
          refine k_iload_n (pc' := 123) dX10_read_122 rfl ?_
          refine k_icmp_ge (tgt := 186) (pc' := 126) dX10_read_123 rfl (fun _ => ?_) (fun zz_ => absurd (nI_le (by omega) (by omega)) zz_)
          refine k_iinc (pc' := 189) (v := nI (i + 1)) dX10_read_186 rfl (nI_inc _) (Nat.le_of_ble_eq_true rfl) rfl ?_
          refine k_goto (tgt := 107) dX10_read_189 rfl ?_
          exact ih (i + 1) s (by omega) (by omega) hle hw he _ _
        | succ m ihm =>
          intro j s hj hle hw he y4
          have he : upn n (i + 1) (mr2 T (a 90)) (upn m (j + 1) (mr1 T (a 90) i) (mr1 T (a 90) i j s)) = R := he
          have hz : bI (s.2.2 = true) = 0 := by rw [bI_eq, hw]; decide
          have put2 : ∀ (s : PS) (v : Int32), OkP G mX10_read 3 Qf 121 [some (.ref (adr G 84)), some (.int (nI P)), some (.int (nI i)), some (.int (nI (j + 1))), some (.int v)] [] (stR G σ N D T z a tb (mIs i j v s.1, s.2)) → OkP G mX10_read 3 Qf 152 [some (.ref (adr G 84)), some (.int (nI P)), some (.int (nI i)), some (.int (nI j)), y4] [.int v] (stR G σ N D T z a tb s) := by
            intro s v hk
            refine k_istore (pc' := 154) dX10_read_152 (Nat.le_of_ble_eq_true rfl) rfl ?_
            refine k_aload_n (pc' := 155) dX10_read_154 rfl ?_
            refine p_get (pc' := 158) clX10 (Nat.le_of_ble_eq_true rfl) fl_RX10_68 dX10_read_155 (by first | assumption | decide | omega) (by first | rfl | assumption) rfl ?_
            refine k_bipush (pc' := 160) (v := nI 6) dX10_read_158 rfl ?_
            refine k_iload_n (pc' := 161) dX10_read_160 rfl ?_
            refine k_imul (pc' := 162) dX10_read_161 (by first | exact pk_mul _ _ | rfl) ?_
            refine k_iload_n (pc' := 163) dX10_read_162 rfl ?_
            refine k_iadd (pc' := 164) dX10_read_163 (by first | exact nI_add _ _ | rfl) ?_
            refine k_iload (pc' := 166) dX10_read_164 rfl ?_
            refine p_iastN (pc' := 167) (σ1 := stR G σ N D T z a tb (upd s.1 (6 * i + j) v, s.2)) dX10_read_166 (by first | assumption | decide | omega) (by first | rfl | assumption) (by first | decide | omega) (by first | omega | (simp only [mL85, mL86, mL87, mL88, mL89, mL90, mL91, mL92, mL93, mL94, mL95, mL96, mL97, mL98, mL100, mL101, mL102, mL103]; omega)) (by exact stR_102) ?_
            refine k_aload_n (pc' := 168) dX10_read_167 rfl ?_
            refine p_get (pc' := 171) clX10 (Nat.le_of_ble_eq_true rfl) fl_RX10_68 dX10_read_168 (by first | assumption | decide | omega) (by first | rfl | assumption) rfl ?_
            refine k_bipush (pc' := 173) (v := nI 6) dX10_read_171 rfl ?_
            refine k_iload_n (pc' := 174) dX10_read_173 rfl ?_
            refine k_imul (pc' := 175) dX10_read_174 (by first | exact pk_mul _ _ | rfl) ?_
            refine k_iload_n (pc' := 176) dX10_read_175 rfl ?_
            refine k_iadd (pc' := 177) dX10_read_176 (by first | exact nI_add _ _ | rfl) ?_
            refine k_iload (pc' := 179) dX10_read_177 rfl ?_
            refine p_iastN (pc' := 180) (σ1 := stR G σ N D T z a tb (mIs i j v s.1, s.2)) dX10_read_179 (by first | assumption | decide | omega) (by first | rfl | assumption) (by first | decide | omega) (by first | omega | (simp only [mL85, mL86, mL87, mL88, mL89, mL90, mL91, mL92, mL93, mL94, mL95, mL96, mL97, mL98, mL100, mL101, mL102, mL103]; omega)) (by exact stR_102) ?_
            refine k_iinc (pc' := 183) (v := nI (j + 1)) dX10_read_180 rfl (nI_inc _) (Nat.le_of_ble_eq_true rfl) rfl ?_
            refine k_goto (tgt := 121) dX10_read_183 rfl ?_
            exact hk
          have sign : ∀ c : Int32, c = (if j = 0 then nI 59 else nI 44) → c ≠ -1 → OkP G mX10_read 3 Qf 145 [some (.ref (adr G 84)), some (.int (nI P)), some (.int (nI i)), some (.int (nI j)), y4] [.int c, .ref (adr G 84)] (stR G σ N D T z a tb s) := by
            intro c hc hc1
            refine p_vV (ν := mX10_must) (pc' := 148) dX10_read_145 ml_RX10_256 mo_X10_must mv_X10_must clX10 (Nat.le_of_ble_eq_true rfl) rfl rfl (Nat.le_of_ble_eq_true rfl) (by first | assumption | decide | omega) (by first | rfl | assumption) (by decide) (c_must hT (by omega) hw) ?_
            refine k_aload_n (pc' := 149) dX10_read_148 rfl ?_
            by_cases hs : bA T (a 90) s.2.1 = c
            · have hlt := bA_lt hs hc1
              rw [if_pos hs]
              refine p_vI (ν := mX10_figures) (pc' := 152) dX10_read_149 ml_RX10_259 mo_X10_figures mv_X10_figures clX10 (Nat.le_of_ble_eq_true rfl) rfl rfl (Nat.le_of_ble_eq_true rfl) (by first | assumption | decide | omega) (by first | rfl | assumption) (by decide) (c_figures (s := (s.1, s.2.1 + 1, false)) hT (show s.2.1 + 1 < 1000 by omega) rfl) ?_
              dsimp only
              by_cases hd : dg (bA T (a 90) (s.2.1 + 1))
              · have e : mr1 T (a 90) i j s = (mIs i j (tM T (a 90) 3 (nI 0) (s.2.1 + 1)).1 s.1, (tM T (a 90) 3 (nI 0) (s.2.1 + 1)).2, false) := by
                  unfold mr1
                  rw [if_neg (by rw [hw]; decide), if_pos (by rw [hs, hc]), if_pos hd]
                rw [e] at he
                rw [if_pos hd, if_pos hd]
                refine put2 (s.1, (tM T (a 90) 3 (nI 0) (s.2.1 + 1)).2, false) _ ?_
                exact ihm (j + 1) (mIs i j (tM T (a 90) 3 (nI 0) (s.2.1 + 1)).1 s.1, (tM T (a 90) 3 (nI 0) (s.2.1 + 1)).2, false) (by omega) (tM_le _ _ _ (by omega)) rfl he _
              · have e : mr1 T (a 90) i j s = (mIs i j (nI 0) s.1, s.2.1 + 1, true) := by
                  unfold mr1
                  rw [if_neg (by rw [hw]; decide), if_pos (by rw [hs, hc]), if_neg hd]
                rw [e, bad1 _ _ _ _ rfl, bad2 _ _ _ rfl] at he
                rw [if_neg hd, if_neg hd]
                refine put2 (s.1, s.2.1 + 1, true) _ ?_
                exact wrong (j + 1) (mIs i j (nI 0) s.1, s.2.1 + 1, true) _ rfl he (show s.2.1 + 1 ≤ T by omega)
            · have e : mr1 T (a 90) i j s = (mIs i j (nI 0) s.1, s.2.1, true) := by
                unfold mr1
                rw [if_neg (by rw [hw]; decide), if_neg (by rw [← hc]; exact hs)]
              rw [e, bad1 _ _ _ _ rfl, bad2 _ _ _ rfl] at he
              rw [if_neg hs]
              refine p_vI (ν := mX10_figures) (pc' := 152) dX10_read_149 ml_RX10_259 mo_X10_figures mv_X10_figures clX10 (Nat.le_of_ble_eq_true rfl) rfl rfl (Nat.le_of_ble_eq_true rfl) (by first | assumption | decide | omega) (by first | rfl | assumption) (by decide) (c_figuresBad (s := (s.1, s.2.1, true)) rfl) ?_
              refine put2 (s.1, s.2.1, true) _ ?_
              exact wrong (j + 1) (mIs i j (nI 0) s.1, s.2.1, true) _ rfl he hle
          by_cases hj0 : j = 0
          · refine k_iload_n (pc' := 122) dX10_read_121 rfl ?_
            refine k_iload_n (pc' := 123) dX10_read_122 rfl ?_
            refine k_icmp_ge (tgt := 186) (pc' := 126) dX10_read_123 rfl (fun zz_ => absurd zz_ (nI_ge (by omega) (by omega))) (fun _ => ?_)
            refine k_aload_n (pc' := 127) dX10_read_126 rfl ?_
            refine p_get (pc' := 130) clX10 (Nat.le_of_ble_eq_true rfl) fl_RX10_242 dX10_read_127 (by first | assumption | decide | omega) (by first | rfl | assumption) rfl ?_
            refine k_if_ne (tgt := 186) (pc' := 133) dX10_read_130 rfl (fun zz_ => absurd hz zz_) (fun _ => ?_)
            refine k_aload_n (pc' := 134) dX10_read_133 rfl ?_
            refine k_iload_n (pc' := 135) dX10_read_134 rfl ?_
            refine k_if_ne (tgt := 143) (pc' := 138) dX10_read_135 rfl (fun zz_ => absurd (by rw [hj0]; rfl) zz_) (fun _ => ?_)
            refine k_bipush (pc' := 140) (v := nI 59) dX10_read_138 rfl ?_
            refine k_goto (tgt := 145) dX10_read_140 rfl ?_
            exact sign (nI 59) (by rw [if_pos hj0]) (by decide)
          · refine k_iload_n (pc' := 122) dX10_read_121 rfl ?_
            refine k_iload_n (pc' := 123) dX10_read_122 rfl ?_
            refine k_icmp_ge (tgt := 186) (pc' := 126) dX10_read_123 rfl (fun zz_ => absurd zz_ (nI_ge (by omega) (by omega))) (fun _ => ?_)
            refine k_aload_n (pc' := 127) dX10_read_126 rfl ?_
            refine p_get (pc' := 130) clX10 (Nat.le_of_ble_eq_true rfl) fl_RX10_242 dX10_read_127 (by first | assumption | decide | omega) (by first | rfl | assumption) rfl ?_
            refine k_if_ne (tgt := 186) (pc' := 133) dX10_read_130 rfl (fun zz_ => absurd hz zz_) (fun _ => ?_)
            refine k_aload_n (pc' := 134) dX10_read_133 rfl ?_
            refine k_iload_n (pc' := 135) dX10_read_134 rfl ?_
            refine k_if_ne (tgt := 143) (pc' := 138) dX10_read_135 rfl (fun _ => ?_) (fun zz_ => absurd zz_ (nI_ne0 (by omega) (by omega)))
            refine k_bipush (pc' := 145) (v := nI 44) dX10_read_143 rfl ?_
            exact sign (nI 44) (by rw [if_neg hj0]) (by decide)
      exact inner i 0 s (by omega) hle hw he _
  exact outer (P - 1) 1 (zf 36 (a 102), 1, false) (by omega) (Nat.le_refl 1) hT1 rfl hR _ _
end MODEL13
