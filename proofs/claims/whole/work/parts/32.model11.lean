section MODEL11
variable {G : GT} {σ : Sto} {N D T : Nat} {z : Nat → Int32} {a : Nat → Nat → Int32} {tb : Nat → Int64}
/-- the state within seeks() -/
def stK (G : GT) (σ : Sto) (N D T : Nat) (z : Nat → Int32) (a : Nat → Nat → Int32) (tb : Nat → Int64) (tr : Nat) (sp : Int32) (f nu : Nat → Int32) : Sto := putM G σ N D T (va_up (va_up z 23 (nI tr)) 25 sp) (va_up (va_up a 100 f) 101 nu) tb
theorem skV_tr {N s mo : Nat} {rec : (Nat → Int32) → (Nat → Int32) → Nat → SR} (hrec : ∀ f nu tr, tr ≤ mo → (rec f nu tr).2.2 ≤ mo) {f : Nat → Int32} : ∀ v nu tr, tr ≤ mo → (skV N s mo rec f v nu tr).2.2 ≤ mo := by
  intro v
  induction v with
  | zero =>
    intro nu tr h
    unfold skV
    by_cases hm : tr = mo
    · rw [if_pos hm]; exact h
    · rw [if_neg hm]; exact hrec _ _ _ (by omega)
  | succ v ih =>
    intro nu tr h
    unfold skV
    by_cases hm : tr = mo
    · rw [if_pos hm]; exact h
    · rw [if_neg hm]
      split
      · exact ih _ _ (hrec _ _ _ (by omega))
      · exact hrec _ _ _ (by omega)
theorem sk_tr {N mo : Nat} : ∀ k f nu tr, tr ≤ mo → (sk N mo k f nu tr).2.2 ≤ mo := by
  intro k
  induction k with
  | zero => intro f nu tr h; exact h
  | succ k ih => intro f nu tr h; exact skV_tr ih _ _ _ h
theorem skV_code {N s mo : Nat} {rec : (Nat → Int32) → (Nat → Int32) → Nat → SR} (hrec : ∀ f nu tr, (rec f nu tr).1 ≤ 2) {f : Nat → Int32} : ∀ v nu tr, (skV N s mo rec f v nu tr).1 ≤ 2 := by
  intro v
  induction v with
  | zero =>
    intro nu tr
    unfold skV
    split
    · exact Nat.le_refl 2
    · exact hrec _ _ _
  | succ v ih =>
    intro nu tr
    unfold skV
    split
    · exact Nat.le_refl 2
    · split
      · exact ih _ _
      · exact hrec _ _ _
theorem sk_code {N mo : Nat} : ∀ k f nu tr, (sk N mo k f nu tr).1 ≤ 2 := by
  intro k
  induction k with
  | zero => intro f nu tr; show (if mNo N f then 1 else 0) ≤ 2; split <;> omega
  | succ k ih => intro f nu tr; exact skV_code ih _ _ _
theorem c_seeks (hN : 2 ≤ N) (hN6 : N ≤ 6) {mo : Nat} (hmo : mo < 10000) (hz : z 24 = nI mo) : ∀ k, k ≤ lC N → ∀ f nu tr, tr ≤ mo → lfOk N f → ConP G mX10_seeks (k + 4) [.ref (adr G 84), .int (nI (lC N + 1 - k))] (stK G σ N D T z a tb tr 0 f nu) (rI (bI ((sk N mo k f nu tr).1 = 1)) (stK G σ N D T z a tb (sk N mo k f nu tr).2.2 (bI ((sk N mo k f nu tr).1 = 2)) f (sk N mo k f nu tr).2.1)) := by
  have hl := lC_le hN hN6
  intro k
  induction k with
  | zero =>
    intro _ f nu tr htr hf
    refine ConP.of rfl (Nat.le_of_ble_eq_true rfl) ?_
    refine k_iload_n (pc' := 1) dX10_seeks_0 rfl ?_
    refine k_aload_n (pc' := 2) dX10_seeks_1 rfl ?_
    refine p_vI (ν := mX10_cuts) (pc' := 5) dX10_seeks_2 ml_RX10_85 mo_X10_cuts mv_X10_cuts clX10 (Nat.le_of_ble_eq_true rfl) rfl rfl (Nat.le_of_ble_eq_true rfl) (by first | assumption | decide | omega) (by first | rfl | assumption) (by omega) (c_cuts hN hN6) ?_
    refine k_icmp_le (tgt := 13) (pc' := 8) dX10_seeks_5 rfl (fun zz_ => absurd zz_ (by rw [nI_leI (by omega) (by omega)]; omega)) (fun _ => ?_)
    refine k_aload_n (pc' := 9) dX10_seeks_8 rfl ?_
    refine p_vI (ν := mX10_isNothing) (pc' := 12) dX10_seeks_9 ml_RX10_206 mo_X10_isNothing mv_X10_isNothing clX10 (Nat.le_of_ble_eq_true rfl) rfl rfl (Nat.le_of_ble_eq_true rfl) (by first | assumption | decide | omega) (by first | rfl | assumption) (by omega) (c_isNothing hN6) ?_
    refine p_zreturn dX10_seeks_12 rfl bI_01 ?_
    by_cases hn : mNo N f
    · have hn2 : mNo N (va_up (va_up a 100 f) 101 nu 100) := hn
      have e : sk N mo 0 f nu tr = (1, nu, tr) := by unfold sk; rw [if_pos hn]
      rw [e]
      exact ⟨by rw [bI_t hn2]; rfl, rfl⟩
    · have hn2 : ¬ mNo N (va_up (va_up a 100 f) 101 nu 100) := hn
      have e : sk N mo 0 f nu tr = (0, nu, tr) := by unfold sk; rw [if_neg hn]
      rw [e]
      exact ⟨by rw [bI_f hn2]; rfl, rfl⟩
  | succ k ihk =>
    intro hk f nu tr htr hf
    have hs : lC N + 1 - (k + 1) = lC N - k := by omega
    rw [hs]
    have hLl := mLl_spec (x := nI (lC N - k)) hf
    show ConP G mX10_seeks (k + 1 + 4) _ _ (rI (bI ((skV N (lC N - k) mo (sk N mo k) f (mLl N (nI (lC N - k)) f).toInt.toNat nu tr).1 = 1)) (stK G σ N D T z a tb (skV N (lC N - k) mo (sk N mo k) f (mLl N (nI (lC N - k)) f).toInt.toNat nu tr).2.2 (bI ((skV N (lC N - k) mo (sk N mo k) f (mLl N (nI (lC N - k)) f).toInt.toNat nu tr).1 = 2)) f (skV N (lC N - k) mo (sk N mo k) f (mLl N (nI (lC N - k)) f).toInt.toNat nu tr).2.1))
    generalize hs2 : lC N - k = s at hLl ⊢
    generalize hV : (mLl N (nI s) f).toInt.toNat = V
    have hVe : mLl N (nI s) f = nI V := by rw [iEq, nI_e (by omega)]; omega
    generalize hR : skV N s mo (sk N mo k) f V nu tr = R
    refine ConP.of rfl (Nat.le_of_ble_eq_true rfl) ?_
    refine k_iload_n (pc' := 1) dX10_seeks_0 rfl ?_
    refine k_aload_n (pc' := 2) dX10_seeks_1 rfl ?_
    refine p_vI (ν := mX10_cuts) (pc' := 5) dX10_seeks_2 ml_RX10_85 mo_X10_cuts mv_X10_cuts clX10 (Nat.le_of_ble_eq_true rfl) rfl rfl (Nat.le_of_ble_eq_true rfl) (by first | assumption | decide | omega) (by first | rfl | assumption) (by omega) (c_cuts hN hN6) ?_
    refine k_icmp_le (tgt := 13) (pc' := 8) dX10_seeks_5 rfl (fun _ => ?_) (fun zz_ => absurd (nI_le (by omega) (by omega)) zz_)
    refine k_aload_n (pc' := 14) dX10_seeks_13 rfl ?_
    refine k_iload_n (pc' := 15) dX10_seeks_14 rfl ?_
    refine p_vI (ν := mX10_leastLeft) (pc' := 18) dX10_seeks_15 ml_RX10_210 mo_X10_leastLeft mv_X10_leastLeft clX10 (Nat.le_of_ble_eq_true rfl) rfl rfl (Nat.le_of_ble_eq_true rfl) (by first | assumption | decide | omega) (by first | rfl | assumption) (by omega) (c_mLeastLeft hN6) ?_
    rw [show (va_up (va_up a 100 f) 101 nu 100) = f from rfl, hVe]
    refine k_istore_n (pc' := 19) dX10_seeks_18 (Nat.le_of_ble_eq_true rfl) rfl ?_
    have fin : OkP G mX10_seeks (k + 1 + 4) (rI (bI (R.1 = 1)) (stK G σ N D T z a tb R.2.2 (bI (R.1 = 2)) f R.2.1)) 19 [some (.ref (adr G 84)), some (.int (nI s)), some (.int (nI V)), none] [] (stK G σ N D T z a tb tr 0 f nu) := by
      have one : ∀ v, v ≤ V → ∀ nu tr, tr < mo → ∀ y, OkP G mX10_seeks (k + 1 + 4) (rI (bI (R.1 = 1)) (stK G σ N D T z a tb R.2.2 (bI (R.1 = 2)) f R.2.1)) 79 [some (.ref (adr G 84)), some (.int (nI s)), some (.int (nI v)), some (.int (bI ((sk N mo k (mLe N (nI s) (nI v) f) (upd nu s (nI v)) (tr + 1)).1 = 1)))] [] (stK G σ N D T z a tb (sk N mo k (mLe N (nI s) (nI v) f) (upd nu s (nI v)) (tr + 1)).2.2 (bI ((sk N mo k (mLe N (nI s) (nI v) f) (upd nu s (nI v)) (tr + 1)).1 = 2)) f (sk N mo k (mLe N (nI s) (nI v) f) (upd nu s (nI v)) (tr + 1)).2.1) → OkP G mX10_seeks (k + 1 + 4) (rI (bI (R.1 = 1)) (stK G σ N D T z a tb R.2.2 (bI (R.1 = 2)) f R.2.1)) 19 [some (.ref (adr G 84)), some (.int (nI s)), some (.int (nI v)), y] [] (stK G σ N D T z a tb tr 0 f nu) := by
        intro v hv nu tr htr y hk2
        have hok : lfOk N (mLe N (nI s) (nI v) f) := mLe_ok hN6 hf (by omega)
        have hcall := ihk (by omega) (mLe N (nI s) (nI v) f) (upd nu s (nI v)) (tr + 1) (by omega) hok
        rw [show lC N + 1 - k = s + 1 by omega] at hcall
        refine k_iload_n (pc' := 20) dX10_seeks_19 rfl ?_
        refine k_if_lt (tgt := 98) (pc' := 23) dX10_seeks_20 rfl (fun zz_ => absurd zz_ (nI_pos (by omega))) (fun _ => ?_)
        refine k_aload_n (pc' := 24) dX10_seeks_23 rfl ?_
        refine p_get (pc' := 27) clX10 (Nat.le_of_ble_eq_true rfl) fl_RX10_213 dX10_seeks_24 (by first | assumption | decide | omega) (by first | rfl | assumption) rfl ?_
        refine k_aload_n (pc' := 28) dX10_seeks_27 rfl ?_
        refine p_get (pc' := 31) clX10 (Nat.le_of_ble_eq_true rfl) fl_RX10_216 dX10_seeks_28 (by first | assumption | decide | omega) (by first | rfl | assumption) rfl ?_
        refine k_icmp_ne (tgt := 41) (pc' := 34) dX10_seeks_31 rfl (fun _ => ?_) (fun zz_ => absurd zz_ (by rw [show (va_up (va_up z 23 (nI tr)) 25 0 24) = nI mo from hz, show (va_up (va_up z 23 (nI tr)) 25 0 23) = nI tr from rfl, nI_eq (by omega) (by omega)]; omega))
        refine k_aload_n (pc' := 42) dX10_seeks_41 rfl ?_
        refine k_dup (pc' := 43) dX10_seeks_42 rfl ?_
        refine p_get (pc' := 46) clX10 (Nat.le_of_ble_eq_true rfl) fl_RX10_213 dX10_seeks_43 (by first | assumption | decide | omega) (by first | rfl | assumption) rfl ?_
        refine k_iconst (pc' := 47) (v := nI 1) dX10_seeks_46 rfl ?_
        refine k_iadd (pc' := 48) (v := nI (tr + 1)) dX10_seeks_47 (nI_add _ _) ?_
        refine p_putI (pc' := 51) (σ1 := stK G σ N D T z a tb (tr + 1) 0 f nu) clX10 (Nat.le_of_ble_eq_true rfl) fl_RX10_213 dX10_seeks_48 rfl (Or.inl rfl) (by first | assumption | decide | omega) (by first | rfl | assumption) (Nat.le_of_ble_eq_true rfl) (by exact (by unfold stK; rw [pMz23, up_c (by decide), up_up])) ?_
        refine k_aload_n (pc' := 52) dX10_seeks_51 rfl ?_
        refine p_get (pc' := 55) clX10 (Nat.le_of_ble_eq_true rfl) fl_RX10_65 dX10_seeks_52 (by first | assumption | decide | omega) (by first | rfl | assumption) rfl ?_
        refine k_iload_n (pc' := 56) dX10_seeks_55 rfl ?_
        refine k_iload_n (pc' := 57) dX10_seeks_56 rfl ?_
        refine p_iastN (pc' := 58) (σ1 := stK G σ N D T z a tb (tr + 1) 0 f (upd nu s (nI v))) dX10_seeks_57 (by first | assumption | decide | omega) (by first | rfl | assumption) (by first | decide | omega) (by first | omega | (simp only [mL85, mL86, mL87, mL88, mL89, mL90, mL91, mL92, mL93, mL94, mL95, mL96, mL97, mL98, mL100, mL101, mL102, mL103]; omega)) (by exact (by unfold stK; rw [pMa (by decide), up_up]; rfl)) ?_
        refine k_aload_n (pc' := 59) dX10_seeks_58 rfl ?_
        refine k_iload_n (pc' := 60) dX10_seeks_59 rfl ?_
        refine k_iload_n (pc' := 61) dX10_seeks_60 rfl ?_
        refine p_vV (ν := mX10_lessens) (pc' := 64) dX10_seeks_61 ml_RX10_223 mo_X10_lessens mv_X10_lessens clX10 (Nat.le_of_ble_eq_true rfl) rfl rfl (Nat.le_of_ble_eq_true rfl) (by first | assumption | decide | omega) (by first | rfl | assumption) (by omega) (c_lessens hN6) ?_
        refine k_aload_n (pc' := 65) dX10_seeks_64 rfl ?_
        refine k_iload_n (pc' := 66) dX10_seeks_65 rfl ?_
        refine k_iconst (pc' := 67) (v := nI 1) dX10_seeks_66 rfl ?_
        refine k_iadd (pc' := 68) dX10_seeks_67 (by first | exact nI_add _ _ | rfl) ?_
        have e1 : va_up (va_up (va_up a 100 f) 101 (upd nu s (nI v))) 100 (mLe N (nI s) (nI v) (va_up (va_up a 100 f) 101 (upd nu s (nI v)) 100)) = va_up (va_up a 100 (mLe N (nI s) (nI v) f)) 101 (upd nu s (nI v)) := by
          rw [up_c (by decide), up_up]
          rfl
        rw [e1]
        refine p_vI (ν := mX10_seeks) (pc' := 71) dX10_seeks_68 ml_RX10_226 mo_X10_seeks mv_X10_seeks clX10 (Nat.le_of_ble_eq_true rfl) rfl rfl (Nat.le_of_ble_eq_true rfl) (by first | assumption | decide | omega) (by first | rfl | assumption) (by omega) (hcall) ?_
        refine k_istore_n (pc' := 72) dX10_seeks_71 (Nat.le_of_ble_eq_true rfl) rfl ?_
        refine k_aload_n (pc' := 73) dX10_seeks_72 rfl ?_
        refine k_iload_n (pc' := 74) dX10_seeks_73 rfl ?_
        refine k_iload_n (pc' := 75) dX10_seeks_74 rfl ?_
        refine k_ineg (pc' := 76) dX10_seeks_75 rfl ?_
        generalize sk N mo k (mLe N (nI s) (nI v) f) (upd nu s (nI v)) (tr + 1) = r at hk2 ⊢
        refine p_vV (ν := mX10_lessens) (pc' := 79) dX10_seeks_76 ml_RX10_223 mo_X10_lessens mv_X10_lessens clX10 (Nat.le_of_ble_eq_true rfl) rfl rfl (Nat.le_of_ble_eq_true rfl) (by first | assumption | decide | omega) (by first | rfl | assumption) (by omega) (c_lessens hN6) ?_
        have e2 : va_up (va_up (va_up a 100 (mLe N (nI s) (nI v) f)) 101 r.2.1) 100 (mLe N (nI s) (-(nI v)) (va_up (va_up a 100 (mLe N (nI s) (nI v) f)) 101 r.2.1 100)) = va_up (va_up a 100 f) 101 r.2.1 := by
          rw [up_c (by decide), up_up, show (va_up (va_up a 100 (mLe N (nI s) (nI v) f)) 101 r.2.1 100) = mLe N (nI s) (nI v) f from rfl, mLe_back hN6]
        rw [e2]
        exact hk2
      have spent : ∀ v, v ≤ V → ∀ nu tr, tr = mo → ∀ y, R = (2, nu, tr) → OkP G mX10_seeks (k + 1 + 4) (rI (bI (R.1 = 1)) (stK G σ N D T z a tb R.2.2 (bI (R.1 = 2)) f R.2.1)) 19 [some (.ref (adr G 84)), some (.int (nI s)), some (.int (nI v)), y] [] (stK G σ N D T z a tb tr 0 f nu) := by
        intro v hv nu tr he y hr
        subst hr
        refine k_iload_n (pc' := 20) dX10_seeks_19 rfl ?_
        refine k_if_lt (tgt := 98) (pc' := 23) dX10_seeks_20 rfl (fun zz_ => absurd zz_ (nI_pos (by omega))) (fun _ => ?_)
        refine k_aload_n (pc' := 24) dX10_seeks_23 rfl ?_
        refine p_get (pc' := 27) clX10 (Nat.le_of_ble_eq_true rfl) fl_RX10_213 dX10_seeks_24 (by first | assumption | decide | omega) (by first | rfl | assumption) rfl ?_
        refine k_aload_n (pc' := 28) dX10_seeks_27 rfl ?_
        refine p_get (pc' := 31) clX10 (Nat.le_of_ble_eq_true rfl) fl_RX10_216 dX10_seeks_28 (by first | assumption | decide | omega) (by first | rfl | assumption) rfl ?_
        refine k_icmp_ne (tgt := 41) (pc' := 34) dX10_seeks_31 rfl (fun zz_ => absurd (by rw [show (va_up (va_up z 23 (nI tr)) 25 0 24) = nI mo from hz, show (va_up (va_up z 23 (nI tr)) 25 0 23) = nI tr from rfl, he]) zz_) (fun _ => ?_)
        refine k_aload_n (pc' := 35) dX10_seeks_34 rfl ?_
        refine k_iconst (pc' := 36) (v := nI 1) dX10_seeks_35 rfl ?_
        refine p_putI (pc' := 39) (σ1 := stK G σ N D T z a tb tr 1 f nu) clX10 (Nat.le_of_ble_eq_true rfl) fl_RX10_219 dX10_seeks_36 rfl (Or.inr ⟨rfl, Or.inr rfl⟩) (by first | assumption | decide | omega) (by first | rfl | assumption) (Nat.le_of_ble_eq_true rfl) (by exact (by unfold stK; rw [pMz25, up_up]; rfl)) ?_
        refine k_iconst (pc' := 40) (v := nI 0) dX10_seeks_39 rfl ?_
        refine p_zreturn dX10_seeks_40 rfl (by first | exact Or.inl rfl | exact Or.inr rfl) ?_
        exact ⟨rfl, rfl⟩
      have ends : ∀ (v : Nat) (r : SR), r = R → ¬ r.1 = 0 → OkP G mX10_seeks (k + 1 + 4) (rI (bI (R.1 = 1)) (stK G σ N D T z a tb R.2.2 (bI (R.1 = 2)) f R.2.1)) 79 [some (.ref (adr G 84)), some (.int (nI s)), some (.int (nI v)), some (.int (bI (r.1 = 1)))] [] (stK G σ N D T z a tb r.2.2 (bI (r.1 = 2)) f r.2.1) := by
        intro v r hr h0
        have hc : R.1 ≤ 2 := by rw [← hR]; exact skV_code (sk_code k) _ _ _
        subst hr
        by_cases h1 : r.1 = 1
        · refine k_iload_n (pc' := 80) dX10_seeks_79 rfl ?_
          refine k_if_ne (tgt := 90) (pc' := 83) dX10_seeks_80 rfl (fun _ => ?_) (fun zz_ => absurd zz_ (by rw [bI_ne]; exact h1))
          refine k_iload_n (pc' := 91) dX10_seeks_90 rfl ?_
          refine p_zreturn dX10_seeks_91 rfl bI_01 ?_
          exact ⟨rfl, rfl⟩
        · have h2 : r.1 = 2 := by omega
          refine k_iload_n (pc' := 80) dX10_seeks_79 rfl ?_
          refine k_if_ne (tgt := 90) (pc' := 83) dX10_seeks_80 rfl (fun zz_ => absurd (by rw [bI_eq]; exact h1) zz_) (fun _ => ?_)
          refine k_aload_n (pc' := 84) dX10_seeks_83 rfl ?_
          refine p_get (pc' := 87) clX10 (Nat.le_of_ble_eq_true rfl) fl_RX10_219 dX10_seeks_84 (by first | assumption | decide | omega) (by first | rfl | assumption) rfl ?_
          refine k_if_eq (tgt := 92) (pc' := 90) dX10_seeks_87 rfl (fun zz_ => absurd zz_ (by show ¬ bI (r.1 = 2) = 0; rw [bI_ne]; exact h2)) (fun _ => ?_)
          refine k_iload_n (pc' := 91) dX10_seeks_90 rfl ?_
          refine p_zreturn dX10_seeks_91 rfl bI_01 ?_
          exact ⟨rfl, rfl⟩
      have main : ∀ v, v ≤ V → ∀ nu tr, tr ≤ mo → skV N s mo (sk N mo k) f v nu tr = R → ∀ y, OkP G mX10_seeks (k + 1 + 4) (rI (bI (R.1 = 1)) (stK G σ N D T z a tb R.2.2 (bI (R.1 = 2)) f R.2.1)) 19 [some (.ref (adr G 84)), some (.int (nI s)), some (.int (nI v)), y] [] (stK G σ N D T z a tb tr 0 f nu) := by
        intro v
        induction v with
        | zero =>
          intro hv nu tr htr hE y
          unfold skV at hE
          by_cases hm : tr = mo
          · rw [if_pos hm] at hE
            exact spent _ hv nu tr hm y hE.symm
          rw [if_neg hm] at hE
          refine one _ hv nu tr (by omega) y ?_
          by_cases h0 : (sk N mo k (mLe N (nI s) (nI 0) f) (upd nu s (nI 0)) (tr + 1)).1 = 0
          · rw [hE] at h0 ⊢
            refine k_iload_n (pc' := 80) dX10_seeks_79 rfl ?_
            refine k_if_ne (tgt := 90) (pc' := 83) dX10_seeks_80 rfl (fun zz_ => absurd (by rw [bI_eq, h0]; decide) zz_) (fun _ => ?_)
            refine k_aload_n (pc' := 84) dX10_seeks_83 rfl ?_
            refine p_get (pc' := 87) clX10 (Nat.le_of_ble_eq_true rfl) fl_RX10_219 dX10_seeks_84 (by first | assumption | decide | omega) (by first | rfl | assumption) rfl ?_
            refine k_if_eq (tgt := 92) (pc' := 90) dX10_seeks_87 rfl (fun _ => ?_) (fun zz_ => absurd (by show bI (R.1 = 2) = 0; rw [bI_eq, h0]; decide) zz_)
            refine k_iinc (pc' := 95) (v := -1) dX10_seeks_92 rfl (by decide) (Nat.le_of_ble_eq_true rfl) rfl ?_
            refine k_goto (tgt := 19) dX10_seeks_95 rfl ?_
            refine k_iload_n (pc' := 20) dX10_seeks_19 rfl ?_
            refine k_if_lt (tgt := 98) (pc' := 23) dX10_seeks_20 rfl (fun _ => ?_) (fun zz_ => absurd (by decide) zz_)
            refine k_iconst (pc' := 99) (v := nI 0) dX10_seeks_98 rfl ?_
            refine p_zreturn dX10_seeks_99 rfl (by first | exact Or.inl rfl | exact Or.inr rfl) ?_
            exact ⟨by rw [bI_f (by rw [h0]; decide)]; rfl, rfl⟩
          · exact ends _ _ hE h0
        | succ v ih =>
          intro hv nu tr htr hE y
          unfold skV at hE
          by_cases hm : tr = mo
          · rw [if_pos hm] at hE
            exact spent _ hv nu tr hm y hE.symm
          rw [if_neg hm] at hE
          refine one _ hv nu tr (by omega) y ?_
          have htr2 := sk_tr (N := N) (mo := mo) k (mLe N (nI s) (nI (v + 1)) f) (upd nu s (nI (v + 1))) (tr + 1) (by omega)
          by_cases h0 : (sk N mo k (mLe N (nI s) (nI (v + 1)) f) (upd nu s (nI (v + 1))) (tr + 1)).1 = 0
          · rw [if_pos h0] at hE
            generalize sk N mo k (mLe N (nI s) (nI (v + 1)) f) (upd nu s (nI (v + 1))) (tr + 1) = r at h0 hE htr2 ⊢
            refine k_iload_n (pc' := 80) dX10_seeks_79 rfl ?_
            refine k_if_ne (tgt := 90) (pc' := 83) dX10_seeks_80 rfl (fun zz_ => absurd (by rw [bI_eq, h0]; decide) zz_) (fun _ => ?_)
            refine k_aload_n (pc' := 84) dX10_seeks_83 rfl ?_
            refine p_get (pc' := 87) clX10 (Nat.le_of_ble_eq_true rfl) fl_RX10_219 dX10_seeks_84 (by first | assumption | decide | omega) (by first | rfl | assumption) rfl ?_
            refine k_if_eq (tgt := 92) (pc' := 90) dX10_seeks_87 rfl (fun _ => ?_) (fun zz_ => absurd (by show bI (r.1 = 2) = 0; rw [bI_eq, h0]; decide) zz_)
            refine k_iinc (pc' := 95) (v := nI v) dX10_seeks_92 rfl (pk_m1 v) (Nat.le_of_ble_eq_true rfl) rfl ?_
            refine k_goto (tgt := 19) dX10_seeks_95 rfl ?_
            have hn := ih (by omega) r.2.1 r.2.2 htr2 hE (some (.int (bI (r.1 = 1))))
            rw [bI_f (show ¬ r.1 = 2 by rw [h0]; decide)]
            exact hn
          · rw [if_neg h0] at hE
            exact ends _ _ hE h0
      exact main V (Nat.le_refl _) nu tr htr hR none
    exact fin
def mSm (N : Nat) (nu : Nat → Int32) : Int32 := upn (lC N) 1 (fun s a => a + nu s) (nI 0)
theorem m_sum (hN : 2 ≤ N) (hN6 : N ≤ 6) (hf : lfOk N (cpA 36 (a 85) (a 100))) {x y : Int32} : ConP G mX10_sum 37 [.ref (adr G 84), .int x, .int y] (putM G σ N D T z a tb) (fun v σ' => (¬ ((1 ≤ x.toInt ∧ x.toInt ≤ 9999) ∧ (-1 ≤ y.toInt ∧ y.toInt ≤ lC N)) ∧ rI (-1) (putM G σ N D T z a tb) v σ') ∨ ∃ mo, x = nI mo ∧ 1 ≤ mo ∧ mo ≤ 9999 ∧ (-1 ≤ y.toInt ∧ y.toInt ≤ lC N) ∧ ∃ z' a', rI (if (sk N mo (lC N) (cpA 36 (a 85) (a 100)) (a 101) 0).1 = 2 then -7 else if (sk N mo (lC N) (cpA 36 (a 85) (a 100)) (a 101) 0).1 = 0 then -2 else if y = 0 then mSm N (sk N mo (lC N) (cpA 36 (a 85) (a 100)) (a 101) 0).2.1 else if y < 0 then nI (sk N mo (lC N) (cpA 36 (a 85) (a 100)) (a 101) 0).2.2 else (sk N mo (lC N) (cpA 36 (a 85) (a 100)) (a 101) 0).2.1 y.toInt.toNat) (putM G σ N D T z' a' tb) v σ' ∧ (∀ k, k ≠ 23 → k ≠ 24 → k ≠ 25 → z' k = z k) ∧ (∀ k, k ≠ 100 → k ≠ 101 → a' k = a k)) := by
  have hl := lC_le hN hN6
  refine ConP.of rfl (Nat.le_of_ble_eq_true rfl) ?_
  refine k_iload_n (pc' := 1) dX10_sum_0 rfl ?_
  refine k_i2l (pc' := 2) dX10_sum_1 rfl ?_
  refine k_lconst (pc' := 3) (v := 1) dX10_sum_2 rfl ?_
  refine k_ldc2 (pc' := 6)  dX10_sum_3 cl_RX10_229 ?_
  refine p_sI (ν := mX10_in) (pc' := 9) dX10_sum_6 ml_RX10_77 mo_X10_in ms_X10_in (Nat.le_of_ble_eq_true rfl) rfl rfl (Nat.le_of_ble_eq_true rfl) (by decide) (c_in) ?_
  refine k_if_eq (tgt := 28) (pc' := 12) dX10_sum_9 rfl (fun c_9 => ?_) (fun c_9 => ?_)
  · rw [bI_eq, in_w (p := 1) (q := 9999) rfl rfl] at c_9
    refine k_iconst (pc' := 29) (v := -1) dX10_sum_28 rfl ?_
    refine p_ireturn dX10_sum_29 rfl ?_
    exact Or.inl ⟨fun q => c_9 q.1, rfl, rfl⟩
  rw [bI_ne, in_w (p := 1) (q := 9999) rfl rfl] at c_9
  refine k_iload_n (pc' := 13) dX10_sum_12 rfl ?_
  refine k_i2l (pc' := 14) dX10_sum_13 rfl ?_
  refine k_ldc2 (pc' := 17)  dX10_sum_14 cl_RX10_231 ?_
  refine k_aload_n (pc' := 18) dX10_sum_17 rfl ?_
  refine p_vI (ν := mX10_cuts) (pc' := 21) dX10_sum_18 ml_RX10_85 mo_X10_cuts mv_X10_cuts clX10 (Nat.le_of_ble_eq_true rfl) rfl rfl (Nat.le_of_ble_eq_true rfl) (by first | assumption | decide | omega) (by first | rfl | assumption) (by decide) (c_cuts hN hN6) ?_
  refine k_i2l (pc' := 22) dX10_sum_21 rfl ?_
  refine p_sI (ν := mX10_in) (pc' := 25) dX10_sum_22 ml_RX10_77 mo_X10_in ms_X10_in (Nat.le_of_ble_eq_true rfl) rfl rfl (Nat.le_of_ble_eq_true rfl) (by decide) (c_in) ?_
  refine k_if_ne (tgt := 30) (pc' := 28) dX10_sum_25 rfl (fun c_25 => ?_) (fun c_25 => ?_)
  rotate_left
  · rw [bI_eq, in_w (p := -1) (q := lC N) rfl (by rw [i2l_e, nI_e (by omega)])] at c_25
    refine k_iconst (pc' := 29) (v := -1) dX10_sum_28 rfl ?_
    refine p_ireturn dX10_sum_29 rfl ?_
    exact Or.inl ⟨fun q => c_25 q.2, rfl, rfl⟩
  rw [bI_ne, in_w (p := -1) (q := lC N) rfl (by rw [i2l_e, nI_e (by omega)])] at c_25
  obtain ⟨mo, hmo, hx⟩ := nI_in0 (x := x) (n := 10000) (by omega) (by omega) (by decide)
  subst hx
  rw [nI_e (by omega)] at c_9
  refine k_aload_n (pc' := 31) dX10_sum_30 rfl ?_
  refine p_get (pc' := 34) clX10 (Nat.le_of_ble_eq_true rfl) fl_RX10_15 dX10_sum_31 (by first | assumption | decide | omega) (by first | rfl | assumption) rfl ?_
  refine k_aload_n (pc' := 35) dX10_sum_34 rfl ?_
  refine p_get (pc' := 38) clX10 (Nat.le_of_ble_eq_true rfl) fl_RX10_62 dX10_sum_35 (by first | assumption | decide | omega) (by first | rfl | assumption) rfl ?_
  refine p_sV (ν := mX10_copies) (pc' := 41) dX10_sum_38 ml_RX10_96 mo_X10_copies ms_X10_copies (Nat.le_of_ble_eq_true rfl) rfl rfl (Nat.le_of_ble_eq_true rfl) (by decide) (c_copies (p := 85) (q := 100) (n := 36) (m := 36) (f := a 85) (g := a 100) (by decide) (by decide) (by decide) rfl rfl (by decide) (by decide)) ?_
  refine k_aload_n (pc' := 42) dX10_sum_41 rfl ?_
  refine k_iconst (pc' := 43) (v := nI 0) dX10_sum_42 rfl ?_
  refine p_putI (pc' := 46) (σ1 := putM G σ N D T (va_up z 23 (nI 0)) (va_up a 100 (cpA 36 (a 85) (a 100))) tb) clX10 (Nat.le_of_ble_eq_true rfl) fl_RX10_213 dX10_sum_43 rfl (Or.inl rfl) (by first | assumption | decide | omega) (by rw [show aI G 36 (cpA 36 (a 85) (a 100)) = aI G (mLen 100) (cpA 36 (a 85) (a 100)) from rfl, pMa (by decide)]; rfl) (Nat.le_of_ble_eq_true rfl) (by exact (by rw [show aI G 36 (cpA 36 (a 85) (a 100)) = aI G (mLen 100) (cpA 36 (a 85) (a 100)) from rfl, pMa (by decide)]; exact pMz23)) ?_
  refine k_aload_n (pc' := 47) dX10_sum_46 rfl ?_
  refine k_iload_n (pc' := 48) dX10_sum_47 rfl ?_
  refine p_putI (pc' := 51) clX10 (Nat.le_of_ble_eq_true rfl) fl_RX10_216 dX10_sum_48 rfl (Or.inl rfl) (by first | assumption | decide | omega) (by first | rfl | assumption) (Nat.le_of_ble_eq_true rfl) (by exact pMz24) ?_
  refine k_aload_n (pc' := 52) dX10_sum_51 rfl ?_
  refine k_iconst (pc' := 53) (v := nI 0) dX10_sum_52 rfl ?_
  refine p_putI (pc' := 56) clX10 (Nat.le_of_ble_eq_true rfl) fl_RX10_219 dX10_sum_53 rfl (Or.inr ⟨rfl, Or.inl rfl⟩) (by first | assumption | decide | omega) (by first | rfl | assumption) (Nat.le_of_ble_eq_true rfl) (by exact pMz25) ?_
  generalize hF : cpA 36 (a 85) (a 100) = F at hf ⊢
  have hst : putM G σ N D T (va_up (va_up (va_up z 23 (nI 0)) 24 (nI mo)) 25 (nI 0)) (va_up a 100 F) tb = stK G σ N D T (va_up z 24 (nI mo)) a tb 0 0 F (a 101) := by
    unfold stK
    rw [up_c (k := 23) (j := 24) (by decide), show va_up (va_up a 100 F) 101 (a 101) = va_up a 100 F from up_id (up_n (by decide))]
    rfl
  rw [hst]
  have hcall := c_seeks (G := G) (σ := σ) (D := D) (T := T) (a := a) (tb := tb) hN hN6 (mo := mo) (by omega) (z := va_up z 24 (nI mo)) up_s (lC N) (Nat.le_refl _) F (a 101) 0 (Nat.zero_le _) hf
  rw [show lC N + 1 - lC N = 1 by omega] at hcall
  refine k_aload_n (pc' := 57) dX10_sum_56 rfl ?_
  refine k_iconst (pc' := 58) (v := nI 1) dX10_sum_57 rfl ?_
  refine p_vI (ν := mX10_seeks) (pc' := 61) dX10_sum_58 ml_RX10_226 mo_X10_seeks mv_X10_seeks clX10 (Nat.le_of_ble_eq_true rfl) rfl rfl (Nat.le_of_ble_eq_true rfl) (by first | assumption | decide | omega) (by first | rfl | assumption) (by omega) (hcall) ?_
  refine k_istore_n (pc' := 62) dX10_sum_61 (Nat.le_of_ble_eq_true rfl) rfl ?_
  have hcode := sk_code (N := N) (mo := mo) (lC N) F (a 101) 0
  have htr := sk_tr (N := N) (mo := mo) (lC N) F (a 101) 0 (Nat.zero_le _)
  generalize hS : sk N mo (lC N) F (a 101) 0 = S at hcode htr ⊢
  have fin : ∀ r, r = (if S.1 = 2 then -7 else if S.1 = 0 then -2 else if y = 0 then mSm N S.2.1 else if y < 0 then nI S.2.2 else S.2.1 y.toInt.toNat) → ((¬ ((1 ≤ (nI mo).toInt ∧ (nI mo).toInt ≤ 9999) ∧ (-1 ≤ y.toInt ∧ y.toInt ≤ lC N)) ∧ rI (-1) (putM G σ N D T z a tb) (some (.int r)) (stK G σ N D T (va_up z 24 (nI mo)) a tb S.2.2 (bI (S.1 = 2)) F S.2.1)) ∨ ∃ mo', nI mo = nI mo' ∧ 1 ≤ mo' ∧ mo' ≤ 9999 ∧ (-1 ≤ y.toInt ∧ y.toInt ≤ lC N) ∧ ∃ z' a', rI (if (sk N mo' (lC N) F (a 101) 0).1 = 2 then -7 else if (sk N mo' (lC N) F (a 101) 0).1 = 0 then -2 else if y = 0 then mSm N (sk N mo' (lC N) F (a 101) 0).2.1 else if y < 0 then nI (sk N mo' (lC N) F (a 101) 0).2.2 else (sk N mo' (lC N) F (a 101) 0).2.1 y.toInt.toNat) (putM G σ N D T z' a' tb) (some (.int r)) (stK G σ N D T (va_up z 24 (nI mo)) a tb S.2.2 (bI (S.1 = 2)) F S.2.1) ∧ (∀ k, k ≠ 23 → k ≠ 24 → k ≠ 25 → z' k = z k) ∧ (∀ k, k ≠ 100 → k ≠ 101 → a' k = a k)) := by
    intro r hr
    refine Or.inr ⟨mo, rfl, by omega, by omega, c_25, _, _, ⟨by rw [hS, hr], rfl⟩, fun k h1 h2 h3 => ?_, fun k h1 h2 => ?_⟩
    · rw [up_n h3, up_n h1, up_n h2]
    · rw [up_n h2, up_n h1]
  by_cases h2 : S.1 = 2
  · refine k_aload_n (pc' := 63) dX10_sum_62 rfl ?_
    refine p_get (pc' := 66) clX10 (Nat.le_of_ble_eq_true rfl) fl_RX10_219 dX10_sum_63 (by first | assumption | decide | omega) (by first | rfl | assumption) rfl ?_
    refine k_if_eq (tgt := 72) (pc' := 69) dX10_sum_66 rfl (fun zz_ => absurd zz_ (by show ¬ bI (S.1 = 2) = 0; rw [bI_ne]; exact h2)) (fun _ => ?_)
    refine k_bipush (pc' := 71) (v := -7) dX10_sum_69 rfl ?_
    refine p_ireturn dX10_sum_71 rfl ?_
    exact fin _ (by rw [if_pos h2])
  by_cases h0 : S.1 = 0
  · refine k_aload_n (pc' := 63) dX10_sum_62 rfl ?_
    refine p_get (pc' := 66) clX10 (Nat.le_of_ble_eq_true rfl) fl_RX10_219 dX10_sum_63 (by first | assumption | decide | omega) (by first | rfl | assumption) rfl ?_
    refine k_if_eq (tgt := 72) (pc' := 69) dX10_sum_66 rfl (fun _ => ?_) (fun zz_ => absurd (by show bI (S.1 = 2) = 0; rw [bI_eq]; exact h2) zz_)
    refine k_iload_n (pc' := 73) dX10_sum_72 rfl ?_
    refine k_if_ne (tgt := 79) (pc' := 76) dX10_sum_73 rfl (fun zz_ => absurd (by rw [bI_eq, h0]; decide) zz_) (fun _ => ?_)
    refine k_bipush (pc' := 78) (v := -2) dX10_sum_76 rfl ?_
    refine p_ireturn dX10_sum_78 rfl ?_
    exact fin _ (by rw [if_neg h2, if_pos h0])
  have h1 : S.1 = 1 := by omega
  refine k_aload_n (pc' := 63) dX10_sum_62 rfl ?_
  refine p_get (pc' := 66) clX10 (Nat.le_of_ble_eq_true rfl) fl_RX10_219 dX10_sum_63 (by first | assumption | decide | omega) (by first | rfl | assumption) rfl ?_
  refine k_if_eq (tgt := 72) (pc' := 69) dX10_sum_66 rfl (fun _ => ?_) (fun zz_ => absurd (by show bI (S.1 = 2) = 0; rw [bI_eq]; exact h2) zz_)
  refine k_iload_n (pc' := 73) dX10_sum_72 rfl ?_
  refine k_if_ne (tgt := 79) (pc' := 76) dX10_sum_73 rfl (fun _ => ?_) (fun zz_ => absurd zz_ (by rw [bI_ne]; exact h1))
  by_cases hy0 : y = 0
  · refine k_iload_n (pc' := 80) dX10_sum_79 rfl ?_
    refine k_if_eq (tgt := 101) (pc' := 83) dX10_sum_80 rfl (fun _ => ?_) (fun zz_ => absurd hy0 zz_)
    refine k_iconst (pc' := 102) (v := nI 0) dX10_sum_101 rfl ?_
    refine k_istore (pc' := 104) dX10_sum_102 (Nat.le_of_ble_eq_true rfl) rfl ?_
    refine k_iconst (pc' := 105) (v := nI 1) dX10_sum_104 rfl ?_
    refine k_istore (pc' := 107) dX10_sum_105 (Nat.le_of_ble_eq_true rfl) rfl ?_
    refine loopU (fun s r => OkP G mX10_sum 37 _ 107 [some (.ref (adr G 84)), some (.int (nI mo)), some (.int y), some (.int (bI (S.1 = 1))), some (.int r), some (.int (nI s))] [] (stK G σ N D T (va_up z 24 (nI mo)) a tb S.2.2 (bI (S.1 = 2)) F S.2.1)) (fun s a => a + S.2.1 s) (1 + lC N) 1 (lC N) (nI 0) rfl ?_ ?_
    · intro s r hs1 hs ih
      refine k_iload (pc' := 109) dX10_sum_107 rfl ?_
      refine k_aload_n (pc' := 110) dX10_sum_109 rfl ?_
      refine p_vI (ν := mX10_cuts) (pc' := 113) dX10_sum_110 ml_RX10_85 mo_X10_cuts mv_X10_cuts clX10 (Nat.le_of_ble_eq_true rfl) rfl rfl (Nat.le_of_ble_eq_true rfl) (by first | assumption | decide | omega) (by first | rfl | assumption) (by decide) (c_cuts hN hN6) ?_
      refine k_icmp_gt (tgt := 134) (pc' := 116) dX10_sum_113 rfl (fun zz_ => absurd zz_ (nI_nlt (by omega) (by omega))) (fun _ => ?_)
      refine k_iload (pc' := 118) dX10_sum_116 rfl ?_
      refine k_aload_n (pc' := 119) dX10_sum_118 rfl ?_
      refine p_get (pc' := 122) clX10 (Nat.le_of_ble_eq_true rfl) fl_RX10_65 dX10_sum_119 (by first | assumption | decide | omega) (by first | rfl | assumption) rfl ?_
      refine k_iload (pc' := 124) dX10_sum_122 rfl ?_
      refine p_ialdN (pc' := 125) dX10_sum_124 (by first | assumption | decide | omega) (by first | rfl | assumption) (by first | decide | omega) (by first | omega | (simp only [mL85, mL86, mL87, mL88, mL89, mL90, mL91, mL92, mL93, mL94, mL95, mL96, mL97, mL98, mL100, mL101, mL102, mL103]; omega)) ?_
      refine k_iadd (pc' := 126) (v := r + S.2.1 s) dX10_sum_125 rfl ?_
      refine k_istore (pc' := 128) dX10_sum_126 (Nat.le_of_ble_eq_true rfl) rfl ?_
      refine k_iinc (pc' := 131) (v := nI (s + 1)) dX10_sum_128 rfl (nI_inc _) (Nat.le_of_ble_eq_true rfl) rfl ?_
      refine k_goto (tgt := 107) dX10_sum_131 rfl ?_
      exact ih
    · refine k_iload (pc' := 109) dX10_sum_107 rfl ?_
      refine k_aload_n (pc' := 110) dX10_sum_109 rfl ?_
      refine p_vI (ν := mX10_cuts) (pc' := 113) dX10_sum_110 ml_RX10_85 mo_X10_cuts mv_X10_cuts clX10 (Nat.le_of_ble_eq_true rfl) rfl rfl (Nat.le_of_ble_eq_true rfl) (by first | assumption | decide | omega) (by first | rfl | assumption) (by decide) (c_cuts hN hN6) ?_
      refine k_icmp_gt (tgt := 134) (pc' := 116) dX10_sum_113 rfl (fun _ => ?_) (fun zz_ => absurd (nI_lt (by omega) (by omega)) zz_)
      refine k_iload (pc' := 136) dX10_sum_134 rfl ?_
      refine p_ireturn dX10_sum_136 rfl ?_
      exact fin _ (by rw [if_neg h2, if_neg h0, if_pos hy0]; rfl)
  by_cases hyn : y < 0
  · refine k_iload_n (pc' := 80) dX10_sum_79 rfl ?_
    refine k_if_eq (tgt := 101) (pc' := 83) dX10_sum_80 rfl (fun zz_ => absurd zz_ hy0) (fun _ => ?_)
    refine k_iload_n (pc' := 84) dX10_sum_83 rfl ?_
    refine k_if_ge (tgt := 94) (pc' := 87) dX10_sum_84 rfl (fun zz_ => absurd zz_ (Int32.not_le.mpr hyn)) (fun _ => ?_)
    refine k_aload_n (pc' := 88) dX10_sum_87 rfl ?_
    refine p_get (pc' := 91) clX10 (Nat.le_of_ble_eq_true rfl) fl_RX10_213 dX10_sum_88 (by first | assumption | decide | omega) (by first | rfl | assumption) rfl ?_
    refine k_goto (tgt := 100) dX10_sum_91 rfl ?_
    refine p_ireturn dX10_sum_100 rfl ?_
    exact fin _ (by rw [if_neg h2, if_neg h0, if_neg hy0, if_pos hyn]; rfl)
  · have hyn' := hyn
    rw [iLt, i0] at hyn'
    obtain ⟨s, hs, hy⟩ := nI_in0 (x := y) (n := 32) (by omega) (by omega) (by decide)
    subst hy
    refine k_iload_n (pc' := 80) dX10_sum_79 rfl ?_
    refine k_if_eq (tgt := 101) (pc' := 83) dX10_sum_80 rfl (fun zz_ => absurd zz_ hy0) (fun _ => ?_)
    refine k_iload_n (pc' := 84) dX10_sum_83 rfl ?_
    refine k_if_ge (tgt := 94) (pc' := 87) dX10_sum_84 rfl (fun _ => ?_) (fun zz_ => absurd (Int32.not_lt.mp hyn) zz_)
    refine k_aload_n (pc' := 95) dX10_sum_94 rfl ?_
    refine p_get (pc' := 98) clX10 (Nat.le_of_ble_eq_true rfl) fl_RX10_65 dX10_sum_95 (by first | assumption | decide | omega) (by first | rfl | assumption) rfl ?_
    refine k_iload_n (pc' := 99) dX10_sum_98 rfl ?_
    refine p_ialdN (pc' := 100) dX10_sum_99 (by first | assumption | decide | omega) (by first | rfl | assumption) (by first | decide | omega) (by first | omega | (simp only [mL85, mL86, mL87, mL88, mL89, mL90, mL91, mL92, mL93, mL94, mL95, mL96, mL97, mL98, mL100, mL101, mL102, mL103]; omega)) ?_
    refine p_ireturn dX10_sum_100 rfl ?_
    exact fin _ (by rw [if_neg h2, if_neg h0, if_neg hy0, if_neg hyn, nI_e (by omega)]; rfl)
/-! gauges -/
abbrev L3 : Type := Int64 × Int64 × Int64
def gaB (x : Int32) (i j : Nat) : Int32 := (x >>> (nI i &&& 31) &&& nI 1) + (x >>> (nI j &&& 31) &&& nI 1)
def mGa1 (x : Int32) (f : Nat → Int32) (i j : Nat) (s : L3) : L3 := (s.1 + (if gaB x i j = nI 2 then (f (6 * i + j)).toInt64 else 0), s.2.1 + (if gaB x i j = nI 1 then (f (6 * i + j)).toInt64 else 0), if gaB x i j = nI 2 then (if (f (6 * i + j)).toInt64 < s.2.2 then s.2.2 else (f (6 * i + j)).toInt64) else s.2.2)
def mGa2 (N : Nat) (x : Int32) (f : Nat → Int32) (i : Nat) (s : L3) : L3 := upn (N - (i + 1)) (i + 1) (mGa1 x f i) s
def mGa (N : Nat) (x : Int32) (f : Nat → Int32) : L3 := upn N 0 (mGa2 N x f) (0, 0, 0)
theorem two_sh : ∀ N, N < 7 → nI 1 <<< (nI N &&& 31) = nI (2 ^ N) := by decide +kernel
theorem two_le : ∀ N, N < 7 → 1 ≤ 2 ^ N ∧ 2 ^ N ≤ 64 := by decide +kernel
theorem m_gauge (hN : 2 ≤ N) (hN6 : N ≤ 6) {x y : Int32} : ConP G mX10_gauge 2 [.ref (adr G 84), .int x, .int y] (putM G σ N D T z a tb) (rL (if (0 ≤ x.toInt ∧ x.toInt ≤ 4) ∧ (0 ≤ y.toInt ∧ y.toInt < (2 ^ N : Nat)) then (if x = 0 then (mGa N y (a 85)).1 else if x = 1 then 2 * (mGa N y (a 85)).1 else if x = 2 then (mGa N y (a 85)).2.1 - 2 * (mGa N y (a 85)).1 else if x = 3 then (mGa N y (a 85)).2.2 else (mGa N y (a 85)).1 - (mGa N y (a 85)).2.2) else -9223372036854775808) (putM G σ N D T z a tb)) := by
  have h2 := two_le N (by omega)
  generalize hR : mGa N y (a 85) = R
  refine ConP.of rfl (Nat.le_of_ble_eq_true rfl) ?_
  refine k_iload_n (pc' := 1) dX10_gauge_0 rfl ?_
  refine k_i2l (pc' := 2) dX10_gauge_1 rfl ?_
  refine k_lconst (pc' := 3) (v := 0) dX10_gauge_2 rfl ?_
  refine k_ldc2 (pc' := 6)  dX10_gauge_3 cl_RX10_153 ?_
  refine p_sI (ν := mX10_in) (pc' := 9) dX10_gauge_6 ml_RX10_77 mo_X10_in ms_X10_in (Nat.le_of_ble_eq_true rfl) rfl rfl (Nat.le_of_ble_eq_true rfl) (by decide) (c_in) ?_
  refine k_if_eq (tgt := 30) (pc' := 12) dX10_gauge_9 rfl (fun c_9 => ?_) (fun c_9 => ?_)
  · rw [bI_eq, in_w (p := 0) (q := 4) rfl rfl] at c_9
    refine k_ldc2 (pc' := 33)  dX10_gauge_30 cl_RX10_185 ?_
    refine p_lreturn dX10_gauge_33 rfl ?_
    exact ⟨by rw [if_neg (fun q => c_9 q.1)], rfl⟩
  rw [bI_ne, in_w (p := 0) (q := 4) rfl rfl] at c_9
  refine k_iload_n (pc' := 13) dX10_gauge_12 rfl ?_
  refine k_i2l (pc' := 14) dX10_gauge_13 rfl ?_
  refine k_lconst (pc' := 15) (v := 0) dX10_gauge_14 rfl ?_
  refine k_iconst (pc' := 16) (v := nI 1) dX10_gauge_15 rfl ?_
  refine k_aload_n (pc' := 17) dX10_gauge_16 rfl ?_
  refine p_get (pc' := 20) clX10 (Nat.le_of_ble_eq_true rfl) fl_RX10_9 dX10_gauge_17 (by first | assumption | decide | omega) (by first | rfl | assumption) rfl ?_
  refine k_ishl (pc' := 21) (v := nI (2 ^ N)) dX10_gauge_20 (two_sh N (by omega)) ?_
  refine k_iconst (pc' := 22) (v := nI 1) dX10_gauge_21 rfl ?_
  refine k_isub (pc' := 23) dX10_gauge_22 (by first | exact pk_sub (by omega) | rfl) ?_
  refine k_i2l (pc' := 24) dX10_gauge_23 rfl ?_
  refine p_sI (ν := mX10_in) (pc' := 27) dX10_gauge_24 ml_RX10_77 mo_X10_in ms_X10_in (Nat.le_of_ble_eq_true rfl) rfl rfl (Nat.le_of_ble_eq_true rfl) (by decide) (c_in) ?_
  refine k_if_ne (tgt := 34) (pc' := 30) dX10_gauge_27 rfl (fun c_27 => ?_) (fun c_27 => ?_)
  rotate_left
  · rw [bI_eq, in_w (p := 0) (q := (2 ^ N - 1 : Nat)) rfl (by rw [i2l_e, nI_e (by omega)])] at c_27
    refine k_ldc2 (pc' := 33)  dX10_gauge_30 cl_RX10_185 ?_
    refine p_lreturn dX10_gauge_33 rfl ?_
    exact ⟨by rw [if_neg (fun q => c_27 (by have := q.2; omega))], rfl⟩
  rw [bI_ne, in_w (p := 0) (q := (2 ^ N - 1 : Nat)) rfl (by rw [i2l_e, nI_e (by omega)])] at c_27
  have hc : (0 ≤ x.toInt ∧ x.toInt ≤ 4) ∧ (0 ≤ y.toInt ∧ y.toInt < (2 ^ N : Nat)) := ⟨c_9, by omega⟩
  rw [if_pos hc]
  refine k_lconst (pc' := 35) (v := 0) dX10_gauge_34 rfl ?_
  refine k_lstore_n (pc' := 36) dX10_gauge_35 (Nat.le_of_ble_eq_true rfl) rfl ?_
  refine k_lconst (pc' := 37) (v := 0) dX10_gauge_36 rfl ?_
  refine k_lstore (pc' := 39) dX10_gauge_37 (Nat.le_of_ble_eq_true rfl) rfl ?_
  refine k_lconst (pc' := 40) (v := 0) dX10_gauge_39 rfl ?_
  refine k_lstore (pc' := 42) dX10_gauge_40 (Nat.le_of_ble_eq_true rfl) rfl ?_
  refine k_iconst (pc' := 43) (v := nI 0) dX10_gauge_42 rfl ?_
  refine k_istore (pc' := 45) dX10_gauge_43 (Nat.le_of_ble_eq_true rfl) rfl ?_
  refine loopU (fun i (s : L3) => ∀ y1 y2, OkP G mX10_gauge 2 _ 45 [some (.ref (adr G 84)), some (.int x), some (.int y), some (.long s.1), none, some (.long s.2.1), none, some (.long s.2.2), none, some (.int (nI i)), y1, y2] [] (putM G σ N D T z a tb)) (mGa2 N y (a 85)) N 0 N (0, 0, 0) (by omega) ?_ ?_ none none
  · intro i s _ hi ih y1 y2
    refine k_iload (pc' := 47) dX10_gauge_45 rfl ?_
    refine k_aload_n (pc' := 48) dX10_gauge_47 rfl ?_
    refine p_get (pc' := 51) clX10 (Nat.le_of_ble_eq_true rfl) fl_RX10_9 dX10_gauge_48 (by first | assumption | decide | omega) (by first | rfl | assumption) rfl ?_
    refine k_icmp_ge (tgt := 184) (pc' := 54) dX10_gauge_51 rfl (fun zz_ => absurd zz_ (nI_ge (by omega) (by omega))) (fun _ => ?_)
    refine k_iload (pc' := 56) dX10_gauge_54 rfl ?_
    refine k_iconst (pc' := 57) (v := nI 1) dX10_gauge_56 rfl ?_
    refine k_iadd (pc' := 58) dX10_gauge_57 (by first | exact nI_add _ _ | rfl) ?_
    refine k_istore (pc' := 60) dX10_gauge_58 (Nat.le_of_ble_eq_true rfl) rfl ?_
    refine loopU (fun j (s : L3) => ∀ y2, OkP G mX10_gauge 2 _ 60 [some (.ref (adr G 84)), some (.int x), some (.int y), some (.long s.1), none, some (.long s.2.1), none, some (.long s.2.2), none, some (.int (nI i)), some (.int (nI j)), y2] [] (putM G σ N D T z a tb)) (mGa1 y (a 85) i) N (i + 1) (N - (i + 1)) s (by omega) ?_ ?_ y2
    · intro j s hij hj ih2 y2
      have ih3 := ih2 (some (.int (gaB y i j)))
      unfold mGa1 at ih3
      dsimp only at ih3
      by_cases g2 : gaB y i j = nI 2
      · have g1 : ¬ gaB y i j = nI 1 := by rw [g2]; decide
        rw [if_pos g2, if_neg g1, if_pos g2] at ih3
        refine k_iload (pc' := 62) dX10_gauge_60 rfl ?_
        refine k_aload_n (pc' := 63) dX10_gauge_62 rfl ?_
        refine p_get (pc' := 66) clX10 (Nat.le_of_ble_eq_true rfl) fl_RX10_9 dX10_gauge_63 (by first | assumption | decide | omega) (by first | rfl | assumption) rfl ?_
        refine k_icmp_ge (tgt := 178) (pc' := 69) dX10_gauge_66 rfl (fun zz_ => absurd zz_ (nI_ge (by omega) (by omega))) (fun _ => ?_)
        refine k_iload_n (pc' := 70) dX10_gauge_69 rfl ?_
        refine k_iload (pc' := 72) dX10_gauge_70 rfl ?_
        refine k_ishr (pc' := 73) dX10_gauge_72 rfl ?_
        refine k_iconst (pc' := 74) (v := nI 1) dX10_gauge_73 rfl ?_
        refine k_iand (pc' := 75) dX10_gauge_74 rfl ?_
        refine k_iload_n (pc' := 76) dX10_gauge_75 rfl ?_
        refine k_iload (pc' := 78) dX10_gauge_76 rfl ?_
        refine k_ishr (pc' := 79) dX10_gauge_78 rfl ?_
        refine k_iconst (pc' := 80) (v := nI 1) dX10_gauge_79 rfl ?_
        refine k_iand (pc' := 81) dX10_gauge_80 rfl ?_
        refine k_iadd (pc' := 82) (v := gaB y i j) dX10_gauge_81 rfl ?_
        refine k_istore (pc' := 84) dX10_gauge_82 (Nat.le_of_ble_eq_true rfl) rfl ?_
        refine k_lload_n (pc' := 85) dX10_gauge_84 rfl ?_
        refine k_iload (pc' := 87) dX10_gauge_85 rfl ?_
        refine k_iconst (pc' := 88) (v := nI 2) dX10_gauge_87 rfl ?_
        refine k_icmp_ne (tgt := 108) (pc' := 91) dX10_gauge_88 rfl (fun zz_ => absurd g2 zz_) (fun _ => ?_)
        refine k_aload_n (pc' := 92) dX10_gauge_91 rfl ?_
        refine p_get (pc' := 95) clX10 (Nat.le_of_ble_eq_true rfl) fl_RX10_15 dX10_gauge_92 (by first | assumption | decide | omega) (by first | rfl | assumption) rfl ?_
        refine k_bipush (pc' := 97) (v := nI 6) dX10_gauge_95 rfl ?_
        refine k_iload (pc' := 99) dX10_gauge_97 rfl ?_
        refine k_imul (pc' := 100) dX10_gauge_99 (by first | exact pk_mul _ _ | rfl) ?_
        refine k_iload (pc' := 102) dX10_gauge_100 rfl ?_
        refine k_iadd (pc' := 103) dX10_gauge_102 (by first | exact nI_add _ _ | rfl) ?_
        refine p_ialdN (pc' := 104) dX10_gauge_103 (by first | assumption | decide | omega) (by first | rfl | assumption) (by first | decide | omega) (by first | omega | (simp only [mL85, mL86, mL87, mL88, mL89, mL90, mL91, mL92, mL93, mL94, mL95, mL96, mL97, mL98, mL100, mL101, mL102, mL103]; omega)) ?_
        refine k_i2l (pc' := 105) dX10_gauge_104 rfl ?_
        refine k_goto (tgt := 109) dX10_gauge_105 rfl ?_
        refine k_ladd (pc' := 110) dX10_gauge_109 rfl ?_
        refine k_lstore_n (pc' := 111) dX10_gauge_110 (Nat.le_of_ble_eq_true rfl) rfl ?_
        refine k_lload (pc' := 113) dX10_gauge_111 rfl ?_
        refine k_iload (pc' := 115) dX10_gauge_113 rfl ?_
        refine k_iconst (pc' := 116) (v := nI 1) dX10_gauge_115 rfl ?_
        refine k_icmp_ne (tgt := 136) (pc' := 119) dX10_gauge_116 rfl (fun _ => ?_) (fun zz_ => absurd zz_ g1)
        refine k_lconst (pc' := 137) (v := 0) dX10_gauge_136 rfl ?_
        refine k_ladd (pc' := 138) dX10_gauge_137 rfl ?_
        refine k_lstore (pc' := 140) dX10_gauge_138 (Nat.le_of_ble_eq_true rfl) rfl ?_
        refine k_iload (pc' := 142) dX10_gauge_140 rfl ?_
        refine k_iconst (pc' := 143) (v := nI 2) dX10_gauge_142 rfl ?_
        refine k_icmp_ne (tgt := 168) (pc' := 146) dX10_gauge_143 rfl (fun zz_ => absurd g2 zz_) (fun _ => ?_)
        refine k_lload (pc' := 148) dX10_gauge_146 rfl ?_
        refine k_aload_n (pc' := 149) dX10_gauge_148 rfl ?_
        refine p_get (pc' := 152) clX10 (Nat.le_of_ble_eq_true rfl) fl_RX10_15 dX10_gauge_149 (by first | assumption | decide | omega) (by first | rfl | assumption) rfl ?_
        refine k_bipush (pc' := 154) (v := nI 6) dX10_gauge_152 rfl ?_
        refine k_iload (pc' := 156) dX10_gauge_154 rfl ?_
        refine k_imul (pc' := 157) dX10_gauge_156 (by first | exact pk_mul _ _ | rfl) ?_
        refine k_iload (pc' := 159) dX10_gauge_157 rfl ?_
        refine k_iadd (pc' := 160) dX10_gauge_159 (by first | exact nI_add _ _ | rfl) ?_
        refine p_ialdN (pc' := 161) dX10_gauge_160 (by first | assumption | decide | omega) (by first | rfl | assumption) (by first | decide | omega) (by first | omega | (simp only [mL85, mL86, mL87, mL88, mL89, mL90, mL91, mL92, mL93, mL94, mL95, mL96, mL97, mL98, mL100, mL101, mL102, mL103]; omega)) ?_
        refine k_i2l (pc' := 162) dX10_gauge_161 rfl ?_
        refine p_maxl (pc' := 165) dX10_gauge_162 ml_RX10_233 (by decide) (Nat.le_of_ble_eq_true rfl) rfl ?_
        refine k_goto (tgt := 170) dX10_gauge_165 rfl ?_
        refine k_lstore (pc' := 172) dX10_gauge_170 (Nat.le_of_ble_eq_true rfl) rfl ?_
        refine k_iinc (pc' := 175) (v := nI (j + 1)) dX10_gauge_172 rfl (nI_inc _) (Nat.le_of_ble_eq_true rfl) rfl ?_
        refine k_goto (tgt := 60) dX10_gauge_175 rfl ?_
        exact ih3
      · by_cases g1 : gaB y i j = nI 1
        · rw [if_neg g2, if_pos g1, if_neg g2] at ih3
          refine k_iload (pc' := 62) dX10_gauge_60 rfl ?_
          refine k_aload_n (pc' := 63) dX10_gauge_62 rfl ?_
          refine p_get (pc' := 66) clX10 (Nat.le_of_ble_eq_true rfl) fl_RX10_9 dX10_gauge_63 (by first | assumption | decide | omega) (by first | rfl | assumption) rfl ?_
          refine k_icmp_ge (tgt := 178) (pc' := 69) dX10_gauge_66 rfl (fun zz_ => absurd zz_ (nI_ge (by omega) (by omega))) (fun _ => ?_)
          refine k_iload_n (pc' := 70) dX10_gauge_69 rfl ?_
          refine k_iload (pc' := 72) dX10_gauge_70 rfl ?_
          refine k_ishr (pc' := 73) dX10_gauge_72 rfl ?_
          refine k_iconst (pc' := 74) (v := nI 1) dX10_gauge_73 rfl ?_
          refine k_iand (pc' := 75) dX10_gauge_74 rfl ?_
          refine k_iload_n (pc' := 76) dX10_gauge_75 rfl ?_
          refine k_iload (pc' := 78) dX10_gauge_76 rfl ?_
          refine k_ishr (pc' := 79) dX10_gauge_78 rfl ?_
          refine k_iconst (pc' := 80) (v := nI 1) dX10_gauge_79 rfl ?_
          refine k_iand (pc' := 81) dX10_gauge_80 rfl ?_
          refine k_iadd (pc' := 82) (v := gaB y i j) dX10_gauge_81 rfl ?_
          refine k_istore (pc' := 84) dX10_gauge_82 (Nat.le_of_ble_eq_true rfl) rfl ?_
          refine k_lload_n (pc' := 85) dX10_gauge_84 rfl ?_
          refine k_iload (pc' := 87) dX10_gauge_85 rfl ?_
          refine k_iconst (pc' := 88) (v := nI 2) dX10_gauge_87 rfl ?_
          refine k_icmp_ne (tgt := 108) (pc' := 91) dX10_gauge_88 rfl (fun _ => ?_) (fun zz_ => absurd zz_ g2)
          refine k_lconst (pc' := 109) (v := 0) dX10_gauge_108 rfl ?_
          refine k_ladd (pc' := 110) dX10_gauge_109 rfl ?_
          refine k_lstore_n (pc' := 111) dX10_gauge_110 (Nat.le_of_ble_eq_true rfl) rfl ?_
          refine k_lload (pc' := 113) dX10_gauge_111 rfl ?_
          refine k_iload (pc' := 115) dX10_gauge_113 rfl ?_
          refine k_iconst (pc' := 116) (v := nI 1) dX10_gauge_115 rfl ?_
          refine k_icmp_ne (tgt := 136) (pc' := 119) dX10_gauge_116 rfl (fun zz_ => absurd g1 zz_) (fun _ => ?_)
          refine k_aload_n (pc' := 120) dX10_gauge_119 rfl ?_
          refine p_get (pc' := 123) clX10 (Nat.le_of_ble_eq_true rfl) fl_RX10_15 dX10_gauge_120 (by first | assumption | decide | omega) (by first | rfl | assumption) rfl ?_
          refine k_bipush (pc' := 125) (v := nI 6) dX10_gauge_123 rfl ?_
          refine k_iload (pc' := 127) dX10_gauge_125 rfl ?_
          refine k_imul (pc' := 128) dX10_gauge_127 (by first | exact pk_mul _ _ | rfl) ?_
          refine k_iload (pc' := 130) dX10_gauge_128 rfl ?_
          refine k_iadd (pc' := 131) dX10_gauge_130 (by first | exact nI_add _ _ | rfl) ?_
          refine p_ialdN (pc' := 132) dX10_gauge_131 (by first | assumption | decide | omega) (by first | rfl | assumption) (by first | decide | omega) (by first | omega | (simp only [mL85, mL86, mL87, mL88, mL89, mL90, mL91, mL92, mL93, mL94, mL95, mL96, mL97, mL98, mL100, mL101, mL102, mL103]; omega)) ?_
          refine k_i2l (pc' := 133) dX10_gauge_132 rfl ?_
          refine k_goto (tgt := 137) dX10_gauge_133 rfl ?_
          refine k_ladd (pc' := 138) dX10_gauge_137 rfl ?_
          refine k_lstore (pc' := 140) dX10_gauge_138 (Nat.le_of_ble_eq_true rfl) rfl ?_
          refine k_iload (pc' := 142) dX10_gauge_140 rfl ?_
          refine k_iconst (pc' := 143) (v := nI 2) dX10_gauge_142 rfl ?_
          refine k_icmp_ne (tgt := 168) (pc' := 146) dX10_gauge_143 rfl (fun _ => ?_) (fun zz_ => absurd zz_ g2)
          refine k_lload (pc' := 170) dX10_gauge_168 rfl ?_
          refine k_lstore (pc' := 172) dX10_gauge_170 (Nat.le_of_ble_eq_true rfl) rfl ?_
          refine k_iinc (pc' := 175) (v := nI (j + 1)) dX10_gauge_172 rfl (nI_inc _) (Nat.le_of_ble_eq_true rfl) rfl ?_
          refine k_goto (tgt := 60) dX10_gauge_175 rfl ?_
          exact ih3
        · rw [if_neg g2, if_neg g1, if_neg g2] at ih3
          refine k_iload (pc' := 62) dX10_gauge_60 rfl ?_
          refine k_aload_n (pc' := 63) dX10_gauge_62 rfl ?_
          refine p_get (pc' := 66) clX10 (Nat.le_of_ble_eq_true rfl) fl_RX10_9 dX10_gauge_63 (by first | assumption | decide | omega) (by first | rfl | assumption) rfl ?_
          refine k_icmp_ge (tgt := 178) (pc' := 69) dX10_gauge_66 rfl (fun zz_ => absurd zz_ (nI_ge (by omega) (by omega))) (fun _ => ?_)
          refine k_iload_n (pc' := 70) dX10_gauge_69 rfl ?_
          refine k_iload (pc' := 72) dX10_gauge_70 rfl ?_
          refine k_ishr (pc' := 73) dX10_gauge_72 rfl ?_
          refine k_iconst (pc' := 74) (v := nI 1) dX10_gauge_73 rfl ?_
          refine k_iand (pc' := 75) dX10_gauge_74 rfl ?_
          refine k_iload_n (pc' := 76) dX10_gauge_75 rfl ?_
          refine k_iload (pc' := 78) dX10_gauge_76 rfl ?_
          refine k_ishr (pc' := 79) dX10_gauge_78 rfl ?_
          refine k_iconst (pc' := 80) (v := nI 1) dX10_gauge_79 rfl ?_
          refine k_iand (pc' := 81) dX10_gauge_80 rfl ?_
          refine k_iadd (pc' := 82) (v := gaB y i j) dX10_gauge_81 rfl ?_
          refine k_istore (pc' := 84) dX10_gauge_82 (Nat.le_of_ble_eq_true rfl) rfl ?_
          refine k_lload_n (pc' := 85) dX10_gauge_84 rfl ?_
          refine k_iload (pc' := 87) dX10_gauge_85 rfl ?_
          refine k_iconst (pc' := 88) (v := nI 2) dX10_gauge_87 rfl ?_
          refine k_icmp_ne (tgt := 108) (pc' := 91) dX10_gauge_88 rfl (fun _ => ?_) (fun zz_ => absurd zz_ g2)
          refine k_lconst (pc' := 109) (v := 0) dX10_gauge_108 rfl ?_
          refine k_ladd (pc' := 110) dX10_gauge_109 rfl ?_
          refine k_lstore_n (pc' := 111) dX10_gauge_110 (Nat.le_of_ble_eq_true rfl) rfl ?_
          refine k_lload (pc' := 113) dX10_gauge_111 rfl ?_
          refine k_iload (pc' := 115) dX10_gauge_113 rfl ?_
          refine k_iconst (pc' := 116) (v := nI 1) dX10_gauge_115 rfl ?_
          refine k_icmp_ne (tgt := 136) (pc' := 119) dX10_gauge_116 rfl (fun _ => ?_) (fun zz_ => absurd zz_ g1)
          refine k_lconst (pc' := 137) (v := 0) dX10_gauge_136 rfl ?_
          refine k_ladd (pc' := 138) dX10_gauge_137 rfl ?_
          refine k_lstore (pc' := 140) dX10_gauge_138 (Nat.le_of_ble_eq_true rfl) rfl ?_
          refine k_iload (pc' := 142) dX10_gauge_140 rfl ?_
          refine k_iconst (pc' := 143) (v := nI 2) dX10_gauge_142 rfl ?_
          refine k_icmp_ne (tgt := 168) (pc' := 146) dX10_gauge_143 rfl (fun _ => ?_) (fun zz_ => absurd zz_ g2)
          refine k_lload (pc' := 170) dX10_gauge_168 rfl ?_
          refine k_lstore (pc' := 172) dX10_gauge_170 (Nat.le_of_ble_eq_true rfl) rfl ?_
          refine k_iinc (pc' := 175) (v := nI (j + 1)) dX10_gauge_172 rfl (nI_inc _) (Nat.le_of_ble_eq_true rfl) rfl ?_
          refine k_goto (tgt := 60) dX10_gauge_175 rfl ?_
          exact ih3
    · intro y2
      refine k_iload (pc' := 62) dX10_gauge_60 rfl ?_
      refine k_aload_n (pc' := 63) dX10_gauge_62 rfl ?_
      refine p_get (pc' := 66) clX10 (Nat.le_of_ble_eq_true rfl) fl_RX10_9 dX10_gauge_63 (by first | assumption | decide | omega) (by first | rfl | assumption) rfl ?_
      refine k_icmp_ge (tgt := 178) (pc' := 69) dX10_gauge_66 rfl (fun _ => ?_) (fun zz_ => absurd (nI_le (by omega) (by omega)) zz_)
      refine k_iinc (pc' := 181) (v := nI (i + 1)) dX10_gauge_178 rfl (nI_inc _) (Nat.le_of_ble_eq_true rfl) rfl ?_
      refine k_goto (tgt := 45) dX10_gauge_181 rfl ?_
      exact ih _ _
  · intro y1 y2
    rw [show upn N 0 (mGa2 N y (a 85)) (0, 0, 0) = R from hR]
    obtain ⟨k, hk, hx⟩ := nI_in0 (x := x) (n := 5) (by omega) (by omega) (by decide)
    subst hx
    rcases (show k = 0 ∨ k = 1 ∨ k = 2 ∨ k = 3 ∨ k = 4 by omega) with rfl | rfl | rfl | rfl | rfl
    · refine k_iload (pc' := 47) dX10_gauge_45 rfl ?_
      refine k_aload_n (pc' := 48) dX10_gauge_47 rfl ?_
      refine p_get (pc' := 51) clX10 (Nat.le_of_ble_eq_true rfl) fl_RX10_9 dX10_gauge_48 (by first | assumption | decide | omega) (by first | rfl | assumption) rfl ?_
      refine k_icmp_ge (tgt := 184) (pc' := 54) dX10_gauge_51 rfl (fun _ => ?_) (fun zz_ => absurd (nI_le (by omega) (by omega)) zz_)
      refine k_iload_n (pc' := 185) dX10_gauge_184 rfl ?_
      refine k_tswIn (tgt := 216) dX10_gauge_185 (by decide) (by decide) rfl rfl ?_
      refine k_lload_n (pc' := 217) dX10_gauge_216 rfl ?_
      refine p_lreturn dX10_gauge_217 rfl ?_
      exact ⟨rfl, rfl⟩
    · refine k_iload (pc' := 47) dX10_gauge_45 rfl ?_
      refine k_aload_n (pc' := 48) dX10_gauge_47 rfl ?_
      refine p_get (pc' := 51) clX10 (Nat.le_of_ble_eq_true rfl) fl_RX10_9 dX10_gauge_48 (by first | assumption | decide | omega) (by first | rfl | assumption) rfl ?_
      refine k_icmp_ge (tgt := 184) (pc' := 54) dX10_gauge_51 rfl (fun _ => ?_) (fun zz_ => absurd (nI_le (by omega) (by omega)) zz_)
      refine k_iload_n (pc' := 185) dX10_gauge_184 rfl ?_
      refine k_tswIn (tgt := 218) dX10_gauge_185 (by decide) (by decide) rfl rfl ?_
      refine k_ldc2 (pc' := 221)  dX10_gauge_218 cl_RX10_103 ?_
      refine k_lload_n (pc' := 222) dX10_gauge_221 rfl ?_
      refine k_lmul (pc' := 223) dX10_gauge_222 rfl ?_
      refine p_lreturn dX10_gauge_223 rfl ?_
      exact ⟨rfl, rfl⟩
    · refine k_iload (pc' := 47) dX10_gauge_45 rfl ?_
      refine k_aload_n (pc' := 48) dX10_gauge_47 rfl ?_
      refine p_get (pc' := 51) clX10 (Nat.le_of_ble_eq_true rfl) fl_RX10_9 dX10_gauge_48 (by first | assumption | decide | omega) (by first | rfl | assumption) rfl ?_
      refine k_icmp_ge (tgt := 184) (pc' := 54) dX10_gauge_51 rfl (fun _ => ?_) (fun zz_ => absurd (nI_le (by omega) (by omega)) zz_)
      refine k_iload_n (pc' := 185) dX10_gauge_184 rfl ?_
      refine k_tswIn (tgt := 224) dX10_gauge_185 (by decide) (by decide) rfl rfl ?_
      refine k_lload (pc' := 226) dX10_gauge_224 rfl ?_
      refine k_ldc2 (pc' := 229)  dX10_gauge_226 cl_RX10_103 ?_
      refine k_lload_n (pc' := 230) dX10_gauge_229 rfl ?_
      refine k_lmul (pc' := 231) dX10_gauge_230 rfl ?_
      refine k_lsub (pc' := 232) dX10_gauge_231 rfl ?_
      refine p_lreturn dX10_gauge_232 rfl ?_
      exact ⟨rfl, rfl⟩
    · refine k_iload (pc' := 47) dX10_gauge_45 rfl ?_
      refine k_aload_n (pc' := 48) dX10_gauge_47 rfl ?_
      refine p_get (pc' := 51) clX10 (Nat.le_of_ble_eq_true rfl) fl_RX10_9 dX10_gauge_48 (by first | assumption | decide | omega) (by first | rfl | assumption) rfl ?_
      refine k_icmp_ge (tgt := 184) (pc' := 54) dX10_gauge_51 rfl (fun _ => ?_) (fun zz_ => absurd (nI_le (by omega) (by omega)) zz_)
      refine k_iload_n (pc' := 185) dX10_gauge_184 rfl ?_
      refine k_tswIn (tgt := 233) dX10_gauge_185 (by decide) (by decide) rfl rfl ?_
      refine k_lload (pc' := 235) dX10_gauge_233 rfl ?_
      refine p_lreturn dX10_gauge_235 rfl ?_
      exact ⟨rfl, rfl⟩
    · refine k_iload (pc' := 47) dX10_gauge_45 rfl ?_
      refine k_aload_n (pc' := 48) dX10_gauge_47 rfl ?_
      refine p_get (pc' := 51) clX10 (Nat.le_of_ble_eq_true rfl) fl_RX10_9 dX10_gauge_48 (by first | assumption | decide | omega) (by first | rfl | assumption) rfl ?_
      refine k_icmp_ge (tgt := 184) (pc' := 54) dX10_gauge_51 rfl (fun _ => ?_) (fun zz_ => absurd (nI_le (by omega) (by omega)) zz_)
      refine k_iload_n (pc' := 185) dX10_gauge_184 rfl ?_
      refine k_tswOut (tgt := 236) dX10_gauge_185 (Or.inr (by decide)) rfl ?_
      refine k_lload_n (pc' := 237) dX10_gauge_236 rfl ?_
      refine k_lload (pc' := 239) dX10_gauge_237 rfl ?_
      refine k_lsub (pc' := 240) dX10_gauge_239 rfl ?_
      refine p_lreturn dX10_gauge_240 rfl ?_
      exact ⟨rfl, rfl⟩
end MODEL11
