abbrev I2 : Type := Int32 × Int32
def mTr1 (f : Nat → Int32) (i j k : Nat) (s : I2) : I2 := if i = j ∨ i = k ∨ ¬ (f (6 * i + j) + f (6 * i + k) < f (6 * j + k)) then s else (s.1 + nI 1, if s.1 = 0 then nI (100 * i + 10 * j + k) else s.2)
def mTr2 (N : Nat) (f : Nat → Int32) (i j : Nat) (s : I2) : I2 := upn (N - (j + 1)) (j + 1) (mTr1 f i j) s
def mTr3 (N : Nat) (f : Nat → Int32) (i : Nat) (s : I2) : I2 := upn N 0 (mTr2 N f i) s
def mTr (N : Nat) (f : Nat → Int32) : I2 := upn N 0 (mTr3 N f) (nI 0, -2)
def od (v : Int32) : Int32 := v - v / nI 2 * nI 2
def mRo1 (f : Nat → Int32) (i j k : Nat) (s : I2) : I2 := if od (f (6 * i + j) + f (6 * i + k) + f (6 * j + k)) = 0 then s else (s.1 + nI 1, if s.1 = 0 then nI (100 * i + 10 * j + k) else s.2)
def mRo2 (N : Nat) (f : Nat → Int32) (i j : Nat) (s : I2) : I2 := upn (N - (j + 1)) (j + 1) (mRo1 f i j) s
def mRo3 (N : Nat) (f : Nat → Int32) (i : Nat) (s : I2) : I2 := upn (N - (i + 1)) (i + 1) (mRo2 N f i) s
def mRo (N : Nat) (f : Nat → Int32) : I2 := upn N 0 (mRo3 N f) (nI 0, -2)
section MODEL5
variable {G : GT} {σ : Sto} {N D T : Nat} {z : Nat → Int32} {a : Nat → Nat → Int32} {tb : Nat → Int64}
theorem m_triangles (hN : 2 ≤ N) (hN6 : N ≤ 6) {x : Int32} : ConP G mX10_triangles 2 [.ref (adr G 84), .int x] (putM G σ N D T z a tb) (rI (if x = 0 then (mTr N (a 85)).1 else if x = 1 then (mTr N (a 85)).2 else -1) (putM G σ N D T z a tb)) := by
  generalize hR : mTr N (a 85) = R
  refine ConP.of rfl (Nat.le_of_ble_eq_true rfl) ?_
  refine k_iload_n (pc' := 1) dX10_triangles_0 rfl ?_
  refine k_i2l (pc' := 2) dX10_triangles_1 rfl ?_
  refine k_lconst (pc' := 3) (v := 0) dX10_triangles_2 rfl ?_
  refine k_lconst (pc' := 4) (v := 1) dX10_triangles_3 rfl ?_
  refine p_sI (ν := mX10_in) (pc' := 7) dX10_triangles_4 ml_RX10_77 mo_X10_in ms_X10_in (Nat.le_of_ble_eq_true rfl) rfl rfl (Nat.le_of_ble_eq_true rfl) (by decide) (c_in) ?_
  refine k_if_ne (tgt := 12) (pc' := 10) dX10_triangles_7 rfl (fun c_7 => ?_) (fun c_7 => ?_)
  rotate_left
  · rw [bI_eq, i2l_e, show (0 : Int64).toInt = 0 from rfl, show (1 : Int64).toInt = 1 from rfl] at c_7
    refine k_iconst (pc' := 11) (v := -1) dX10_triangles_10 rfl ?_
    refine p_ireturn dX10_triangles_11 rfl ?_
    refine ⟨?_, rfl⟩
    rw [if_neg (fun q => by subst q; exact c_7 (by decide)), if_neg (fun q => by subst q; exact c_7 (by decide))]
  rw [bI_ne, i2l_e, show (0 : Int64).toInt = 0 from rfl, show (1 : Int64).toInt = 1 from rfl] at c_7
  refine k_iconst (pc' := 13) (v := nI 0) dX10_triangles_12 rfl ?_
  refine k_istore_n (pc' := 14) dX10_triangles_13 (Nat.le_of_ble_eq_true rfl) rfl ?_
  refine k_bipush (pc' := 16) (v := -2) dX10_triangles_14 rfl ?_
  refine k_istore_n (pc' := 17) dX10_triangles_16 (Nat.le_of_ble_eq_true rfl) rfl ?_
  refine k_iconst (pc' := 18) (v := nI 0) dX10_triangles_17 rfl ?_
  refine k_istore (pc' := 20) dX10_triangles_18 (Nat.le_of_ble_eq_true rfl) rfl ?_
  refine loopU (fun i (s : I2) => ∀ y1 y2, OkP G mX10_triangles 2 (rI (if x = 0 then R.1 else if x = 1 then R.2 else -1) (putM G σ N D T z a tb)) 20 [some (.ref (adr G 84)), some (.int x), some (.int s.1), some (.int s.2), some (.int (nI i)), y1, y2] [] (putM G σ N D T z a tb)) (mTr3 N (a 85)) N 0 N (nI 0, -2) (by omega) ?_ ?_ none none
  · intro i s _ hi ih y1 y2
    refine k_iload (pc' := 22) dX10_triangles_20 rfl ?_
    refine k_aload_n (pc' := 23) dX10_triangles_22 rfl ?_
    refine p_get (pc' := 26) clX10 (Nat.le_of_ble_eq_true rfl) fl_RX10_9 dX10_triangles_23 (by first | assumption | decide | omega) (by first | rfl | assumption) rfl ?_
    refine k_icmp_ge (tgt := 160) (pc' := 29) dX10_triangles_26 rfl (fun zz_ => absurd zz_ (nI_ge (by omega) (by omega))) (fun _ => ?_)
    refine k_iconst (pc' := 30) (v := nI 0) dX10_triangles_29 rfl ?_
    refine k_istore (pc' := 32) dX10_triangles_30 (Nat.le_of_ble_eq_true rfl) rfl ?_
    refine loopU (fun j (s : I2) => ∀ y2, OkP G mX10_triangles 2 (rI (if x = 0 then R.1 else if x = 1 then R.2 else -1) (putM G σ N D T z a tb)) 32 [some (.ref (adr G 84)), some (.int x), some (.int s.1), some (.int s.2), some (.int (nI i)), some (.int (nI j)), y2] [] (putM G σ N D T z a tb)) (mTr2 N (a 85) i) N 0 N s (by omega) ?_ ?_ y2
    · intro j s _ hj ih2 y2
      refine k_iload (pc' := 34) dX10_triangles_32 rfl ?_
      refine k_aload_n (pc' := 35) dX10_triangles_34 rfl ?_
      refine p_get (pc' := 38) clX10 (Nat.le_of_ble_eq_true rfl) fl_RX10_9 dX10_triangles_35 (by first | assumption | decide | omega) (by first | rfl | assumption) rfl ?_
      refine k_icmp_ge (tgt := 154) (pc' := 41) dX10_triangles_38 rfl (fun zz_ => absurd zz_ (nI_ge (by omega) (by omega))) (fun _ => ?_)
      refine k_iload (pc' := 43) dX10_triangles_41 rfl ?_
      refine k_iconst (pc' := 44) (v := nI 1) dX10_triangles_43 rfl ?_
      refine k_iadd (pc' := 45) dX10_triangles_44 (by first | exact nI_add _ _ | rfl) ?_
      refine k_istore (pc' := 47) dX10_triangles_45 (Nat.le_of_ble_eq_true rfl) rfl ?_
      refine loopU (fun k (s : I2) => OkP G mX10_triangles 2 (rI (if x = 0 then R.1 else if x = 1 then R.2 else -1) (putM G σ N D T z a tb)) 47 [some (.ref (adr G 84)), some (.int x), some (.int s.1), some (.int s.2), some (.int (nI i)), some (.int (nI j)), some (.int (nI k))] [] (putM G σ N D T z a tb)) (mTr1 (a 85) i j) N (j + 1) (N - (j + 1)) s (by omega) ?_ ?_
      · intro k s hjk hk ih3
        by_cases h1 : i = j
        · rw [show mTr1 (a 85) i j k s = s from if_pos (Or.inl h1)] at ih3
          refine k_iload (pc' := 49) dX10_triangles_47 rfl ?_
          refine k_aload_n (pc' := 50) dX10_triangles_49 rfl ?_
          refine p_get (pc' := 53) clX10 (Nat.le_of_ble_eq_true rfl) fl_RX10_9 dX10_triangles_50 (by first | assumption | decide | omega) (by first | rfl | assumption) rfl ?_
          refine k_icmp_ge (tgt := 148) (pc' := 56) dX10_triangles_53 rfl (fun zz_ => absurd zz_ (nI_ge (by omega) (by omega))) (fun _ => ?_)
          refine k_iload (pc' := 58) dX10_triangles_56 rfl ?_
          refine k_iload (pc' := 60) dX10_triangles_58 rfl ?_
          refine k_icmp_eq (tgt := 142) (pc' := 63) dX10_triangles_60 rfl (fun _ => ?_) (fun zz_ => absurd (by rw [h1]) zz_)
          refine k_iinc (pc' := 145) (v := nI (k + 1)) dX10_triangles_142 rfl (nI_inc _) (Nat.le_of_ble_eq_true rfl) rfl ?_
          refine k_goto (tgt := 47) dX10_triangles_145 rfl ?_
          exact ih3
        by_cases h2 : i = k
        · rw [show mTr1 (a 85) i j k s = s from if_pos (Or.inr (Or.inl h2))] at ih3
          refine k_iload (pc' := 49) dX10_triangles_47 rfl ?_
          refine k_aload_n (pc' := 50) dX10_triangles_49 rfl ?_
          refine p_get (pc' := 53) clX10 (Nat.le_of_ble_eq_true rfl) fl_RX10_9 dX10_triangles_50 (by first | assumption | decide | omega) (by first | rfl | assumption) rfl ?_
          refine k_icmp_ge (tgt := 148) (pc' := 56) dX10_triangles_53 rfl (fun zz_ => absurd zz_ (nI_ge (by omega) (by omega))) (fun _ => ?_)
          refine k_iload (pc' := 58) dX10_triangles_56 rfl ?_
          refine k_iload (pc' := 60) dX10_triangles_58 rfl ?_
          refine k_icmp_eq (tgt := 142) (pc' := 63) dX10_triangles_60 rfl (fun zz_ => absurd zz_ (by rw [nI_eq (by omega) (by omega)]; exact h1)) (fun _ => ?_)
          refine k_iload (pc' := 65) dX10_triangles_63 rfl ?_
          refine k_iload (pc' := 67) dX10_triangles_65 rfl ?_
          refine k_icmp_eq (tgt := 142) (pc' := 70) dX10_triangles_67 rfl (fun _ => ?_) (fun zz_ => absurd (by rw [h2]) zz_)
          refine k_iinc (pc' := 145) (v := nI (k + 1)) dX10_triangles_142 rfl (nI_inc _) (Nat.le_of_ble_eq_true rfl) rfl ?_
          refine k_goto (tgt := 47) dX10_triangles_145 rfl ?_
          exact ih3
        by_cases h3 : a 85 (6 * i + j) + a 85 (6 * i + k) < a 85 (6 * j + k)
        · rw [show mTr1 (a 85) i j k s = (s.1 + nI 1, if s.1 = 0 then nI (100 * i + 10 * j + k) else s.2) from if_neg (fun q => q.elim h1 (fun q => q.elim h2 (fun q => q h3)))] at ih3
          refine k_iload (pc' := 49) dX10_triangles_47 rfl ?_
          refine k_aload_n (pc' := 50) dX10_triangles_49 rfl ?_
          refine p_get (pc' := 53) clX10 (Nat.le_of_ble_eq_true rfl) fl_RX10_9 dX10_triangles_50 (by first | assumption | decide | omega) (by first | rfl | assumption) rfl ?_
          refine k_icmp_ge (tgt := 148) (pc' := 56) dX10_triangles_53 rfl (fun zz_ => absurd zz_ (nI_ge (by omega) (by omega))) (fun _ => ?_)
          refine k_iload (pc' := 58) dX10_triangles_56 rfl ?_
          refine k_iload (pc' := 60) dX10_triangles_58 rfl ?_
          refine k_icmp_eq (tgt := 142) (pc' := 63) dX10_triangles_60 rfl (fun zz_ => absurd zz_ (by rw [nI_eq (by omega) (by omega)]; exact h1)) (fun _ => ?_)
          refine k_iload (pc' := 65) dX10_triangles_63 rfl ?_
          refine k_iload (pc' := 67) dX10_triangles_65 rfl ?_
          refine k_icmp_eq (tgt := 142) (pc' := 70) dX10_triangles_67 rfl (fun zz_ => absurd zz_ (by rw [nI_eq (by omega) (by omega)]; exact h2)) (fun _ => ?_)
          refine k_aload_n (pc' := 71) dX10_triangles_70 rfl ?_
          refine p_get (pc' := 74) clX10 (Nat.le_of_ble_eq_true rfl) fl_RX10_15 dX10_triangles_71 (by first | assumption | decide | omega) (by first | rfl | assumption) rfl ?_
          refine k_bipush (pc' := 76) (v := nI 6) dX10_triangles_74 rfl ?_
          refine k_iload (pc' := 78) dX10_triangles_76 rfl ?_
          refine k_imul (pc' := 79) dX10_triangles_78 (by first | exact pk_mul _ _ | rfl) ?_
          refine k_iload (pc' := 81) dX10_triangles_79 rfl ?_
          refine k_iadd (pc' := 82) dX10_triangles_81 (by first | exact nI_add _ _ | rfl) ?_
          refine p_ialdN (pc' := 83) dX10_triangles_82 (by first | assumption | decide | omega) (by first | rfl | assumption) (by first | decide | omega) (by first | omega | (simp only [mL85, mL86, mL87, mL88, mL89, mL90, mL91, mL92, mL93, mL94, mL95, mL96, mL97, mL98, mL100, mL101, mL102, mL103]; omega)) ?_
          refine k_aload_n (pc' := 84) dX10_triangles_83 rfl ?_
          refine p_get (pc' := 87) clX10 (Nat.le_of_ble_eq_true rfl) fl_RX10_15 dX10_triangles_84 (by first | assumption | decide | omega) (by first | rfl | assumption) rfl ?_
          refine k_bipush (pc' := 89) (v := nI 6) dX10_triangles_87 rfl ?_
          refine k_iload (pc' := 91) dX10_triangles_89 rfl ?_
          refine k_imul (pc' := 92) dX10_triangles_91 (by first | exact pk_mul _ _ | rfl) ?_
          refine k_iload (pc' := 94) dX10_triangles_92 rfl ?_
          refine k_iadd (pc' := 95) dX10_triangles_94 (by first | exact nI_add _ _ | rfl) ?_
          refine p_ialdN (pc' := 96) dX10_triangles_95 (by first | assumption | decide | omega) (by first | rfl | assumption) (by first | decide | omega) (by first | omega | (simp only [mL85, mL86, mL87, mL88, mL89, mL90, mL91, mL92, mL93, mL94, mL95, mL96, mL97, mL98, mL100, mL101, mL102, mL103]; omega)) ?_
          refine k_aload_n (pc' := 97) dX10_triangles_96 rfl ?_
          refine p_get (pc' := 100) clX10 (Nat.le_of_ble_eq_true rfl) fl_RX10_15 dX10_triangles_97 (by first | assumption | decide | omega) (by first | rfl | assumption) rfl ?_
          refine k_bipush (pc' := 102) (v := nI 6) dX10_triangles_100 rfl ?_
          refine k_iload (pc' := 104) dX10_triangles_102 rfl ?_
          refine k_imul (pc' := 105) dX10_triangles_104 (by first | exact pk_mul _ _ | rfl) ?_
          refine k_iload (pc' := 107) dX10_triangles_105 rfl ?_
          refine k_iadd (pc' := 108) dX10_triangles_107 (by first | exact nI_add _ _ | rfl) ?_
          refine p_ialdN (pc' := 109) dX10_triangles_108 (by first | assumption | decide | omega) (by first | rfl | assumption) (by first | decide | omega) (by first | omega | (simp only [mL85, mL86, mL87, mL88, mL89, mL90, mL91, mL92, mL93, mL94, mL95, mL96, mL97, mL98, mL100, mL101, mL102, mL103]; omega)) ?_
          refine k_iadd (pc' := 110) (v := a 85 (6 * i + j) + a 85 (6 * i + k)) dX10_triangles_109 rfl ?_
          refine k_icmp_gt (tgt := 116) (pc' := 113) dX10_triangles_110 rfl (fun _ => ?_) (fun zz_ => absurd h3 zz_)
          by_cases h4 : s.1 = 0
          · rw [if_pos h4] at ih3
            refine k_iload_n (pc' := 117) dX10_triangles_116 rfl ?_
            refine k_if_ne (tgt := 137) (pc' := 120) dX10_triangles_117 rfl (fun zz_ => absurd h4 zz_) (fun _ => ?_)
            refine k_bipush (pc' := 122) (v := nI 100) dX10_triangles_120 rfl ?_
            refine k_iload (pc' := 124) dX10_triangles_122 rfl ?_
            refine k_imul (pc' := 125) dX10_triangles_124 (by first | exact pk_mul _ _ | rfl) ?_
            refine k_bipush (pc' := 127) (v := nI 10) dX10_triangles_125 rfl ?_
            refine k_iload (pc' := 129) dX10_triangles_127 rfl ?_
            refine k_imul (pc' := 130) dX10_triangles_129 (by first | exact pk_mul _ _ | rfl) ?_
            refine k_iadd (pc' := 131) dX10_triangles_130 (by first | exact nI_add _ _ | rfl) ?_
            refine k_iload (pc' := 133) dX10_triangles_131 rfl ?_
            refine k_iadd (pc' := 134) dX10_triangles_133 (by first | exact nI_add _ _ | rfl) ?_
            refine k_goto (tgt := 138) dX10_triangles_134 rfl ?_
            refine k_istore_n (pc' := 139) dX10_triangles_138 (Nat.le_of_ble_eq_true rfl) rfl ?_
            refine k_iinc (pc' := 142) (v := s.1 + nI 1) dX10_triangles_139 rfl rfl (Nat.le_of_ble_eq_true rfl) rfl ?_
            refine k_iinc (pc' := 145) (v := nI (k + 1)) dX10_triangles_142 rfl (nI_inc _) (Nat.le_of_ble_eq_true rfl) rfl ?_
            refine k_goto (tgt := 47) dX10_triangles_145 rfl ?_
            exact ih3
          · rw [if_neg h4] at ih3
            refine k_iload_n (pc' := 117) dX10_triangles_116 rfl ?_
            refine k_if_ne (tgt := 137) (pc' := 120) dX10_triangles_117 rfl (fun _ => ?_) (fun zz_ => absurd zz_ h4)
            refine k_iload_n (pc' := 138) dX10_triangles_137 rfl ?_
            refine k_istore_n (pc' := 139) dX10_triangles_138 (Nat.le_of_ble_eq_true rfl) rfl ?_
            refine k_iinc (pc' := 142) (v := s.1 + nI 1) dX10_triangles_139 rfl rfl (Nat.le_of_ble_eq_true rfl) rfl ?_
            refine k_iinc (pc' := 145) (v := nI (k + 1)) dX10_triangles_142 rfl (nI_inc _) (Nat.le_of_ble_eq_true rfl) rfl ?_
            refine k_goto (tgt := 47) dX10_triangles_145 rfl ?_
            exact ih3
        · rw [show mTr1 (a 85) i j k s = s from if_pos (Or.inr (Or.inr h3))] at ih3
          refine k_iload (pc' := 49) dX10_triangles_47 rfl ?_
          refine k_aload_n (pc' := 50) dX10_triangles_49 rfl ?_
          refine p_get (pc' := 53) clX10 (Nat.le_of_ble_eq_true rfl) fl_RX10_9 dX10_triangles_50 (by first | assumption | decide | omega) (by first | rfl | assumption) rfl ?_
          refine k_icmp_ge (tgt := 148) (pc' := 56) dX10_triangles_53 rfl (fun zz_ => absurd zz_ (nI_ge (by omega) (by omega))) (fun _ => ?_)
          refine k_iload (pc' := 58) dX10_triangles_56 rfl ?_
          refine k_iload (pc' := 60) dX10_triangles_58 rfl ?_
          refine k_icmp_eq (tgt := 142) (pc' := 63) dX10_triangles_60 rfl (fun zz_ => absurd zz_ (by rw [nI_eq (by omega) (by omega)]; exact h1)) (fun _ => ?_)
          refine k_iload (pc' := 65) dX10_triangles_63 rfl ?_
          refine k_iload (pc' := 67) dX10_triangles_65 rfl ?_
          refine k_icmp_eq (tgt := 142) (pc' := 70) dX10_triangles_67 rfl (fun zz_ => absurd zz_ (by rw [nI_eq (by omega) (by omega)]; exact h2)) (fun _ => ?_)
          refine k_aload_n (pc' := 71) dX10_triangles_70 rfl ?_
          refine p_get (pc' := 74) clX10 (Nat.le_of_ble_eq_true rfl) fl_RX10_15 dX10_triangles_71 (by first | assumption | decide | omega) (by first | rfl | assumption) rfl ?_
          refine k_bipush (pc' := 76) (v := nI 6) dX10_triangles_74 rfl ?_
          refine k_iload (pc' := 78) dX10_triangles_76 rfl ?_
          refine k_imul (pc' := 79) dX10_triangles_78 (by first | exact pk_mul _ _ | rfl) ?_
          refine k_iload (pc' := 81) dX10_triangles_79 rfl ?_
          refine k_iadd (pc' := 82) dX10_triangles_81 (by first | exact nI_add _ _ | rfl) ?_
          refine p_ialdN (pc' := 83) dX10_triangles_82 (by first | assumption | decide | omega) (by first | rfl | assumption) (by first | decide | omega) (by first | omega | (simp only [mL85, mL86, mL87, mL88, mL89, mL90, mL91, mL92, mL93, mL94, mL95, mL96, mL97, mL98, mL100, mL101, mL102, mL103]; omega)) ?_
          refine k_aload_n (pc' := 84) dX10_triangles_83 rfl ?_
          refine p_get (pc' := 87) clX10 (Nat.le_of_ble_eq_true rfl) fl_RX10_15 dX10_triangles_84 (by first | assumption | decide | omega) (by first | rfl | assumption) rfl ?_
          refine k_bipush (pc' := 89) (v := nI 6) dX10_triangles_87 rfl ?_
          refine k_iload (pc' := 91) dX10_triangles_89 rfl ?_
          refine k_imul (pc' := 92) dX10_triangles_91 (by first | exact pk_mul _ _ | rfl) ?_
          refine k_iload (pc' := 94) dX10_triangles_92 rfl ?_
          refine k_iadd (pc' := 95) dX10_triangles_94 (by first | exact nI_add _ _ | rfl) ?_
          refine p_ialdN (pc' := 96) dX10_triangles_95 (by first | assumption | decide | omega) (by first | rfl | assumption) (by first | decide | omega) (by first | omega | (simp only [mL85, mL86, mL87, mL88, mL89, mL90, mL91, mL92, mL93, mL94, mL95, mL96, mL97, mL98, mL100, mL101, mL102, mL103]; omega)) ?_
          refine k_aload_n (pc' := 97) dX10_triangles_96 rfl ?_
          refine p_get (pc' := 100) clX10 (Nat.le_of_ble_eq_true rfl) fl_RX10_15 dX10_triangles_97 (by first | assumption | decide | omega) (by first | rfl | assumption) rfl ?_
          refine k_bipush (pc' := 102) (v := nI 6) dX10_triangles_100 rfl ?_
          refine k_iload (pc' := 104) dX10_triangles_102 rfl ?_
          refine k_imul (pc' := 105) dX10_triangles_104 (by first | exact pk_mul _ _ | rfl) ?_
          refine k_iload (pc' := 107) dX10_triangles_105 rfl ?_
          refine k_iadd (pc' := 108) dX10_triangles_107 (by first | exact nI_add _ _ | rfl) ?_
          refine p_ialdN (pc' := 109) dX10_triangles_108 (by first | assumption | decide | omega) (by first | rfl | assumption) (by first | decide | omega) (by first | omega | (simp only [mL85, mL86, mL87, mL88, mL89, mL90, mL91, mL92, mL93, mL94, mL95, mL96, mL97, mL98, mL100, mL101, mL102, mL103]; omega)) ?_
          refine k_iadd (pc' := 110) (v := a 85 (6 * i + j) + a 85 (6 * i + k)) dX10_triangles_109 rfl ?_
          refine k_icmp_gt (tgt := 116) (pc' := 113) dX10_triangles_110 rfl (fun zz_ => absurd zz_ h3) (fun _ => ?_)
          refine k_goto (tgt := 142) dX10_triangles_113 rfl ?_
          refine k_iinc (pc' := 145) (v := nI (k + 1)) dX10_triangles_142 rfl (nI_inc _) (Nat.le_of_ble_eq_true rfl) rfl ?_
          refine k_goto (tgt := 47) dX10_triangles_145 rfl ?_
          exact ih3
      · refine k_iload (pc' := 49) dX10_triangles_47 rfl ?_
        refine k_aload_n (pc' := 50) dX10_triangles_49 rfl ?_
        refine p_get (pc' := 53) clX10 (Nat.le_of_ble_eq_true rfl) fl_RX10_9 dX10_triangles_50 (by first | assumption | decide | omega) (by first | rfl | assumption) rfl ?_
        refine k_icmp_ge (tgt := 148) (pc' := 56) dX10_triangles_53 rfl (fun _ => ?_) (fun zz_ => absurd (nI_le (by omega) (by omega)) zz_)
        refine k_iinc (pc' := 151) (v := nI (j + 1)) dX10_triangles_148 rfl (nI_inc _) (Nat.le_of_ble_eq_true rfl) rfl ?_
        refine k_goto (tgt := 32) dX10_triangles_151 rfl ?_
        exact ih2 _
    · intro y2
      refine k_iload (pc' := 34) dX10_triangles_32 rfl ?_
      refine k_aload_n (pc' := 35) dX10_triangles_34 rfl ?_
      refine p_get (pc' := 38) clX10 (Nat.le_of_ble_eq_true rfl) fl_RX10_9 dX10_triangles_35 (by first | assumption | decide | omega) (by first | rfl | assumption) rfl ?_
      refine k_icmp_ge (tgt := 154) (pc' := 41) dX10_triangles_38 rfl (fun _ => ?_) (fun zz_ => absurd (nI_le (by omega) (by omega)) zz_)
      refine k_iinc (pc' := 157) (v := nI (i + 1)) dX10_triangles_154 rfl (nI_inc _) (Nat.le_of_ble_eq_true rfl) rfl ?_
      refine k_goto (tgt := 20) dX10_triangles_157 rfl ?_
      exact ih _ _
  · intro y1 y2
    rw [show upn N 0 (mTr3 N (a 85)) (nI 0, -2) = R from hR]
    by_cases h0 : x = 0
    · refine k_iload (pc' := 22) dX10_triangles_20 rfl ?_
      refine k_aload_n (pc' := 23) dX10_triangles_22 rfl ?_
      refine p_get (pc' := 26) clX10 (Nat.le_of_ble_eq_true rfl) fl_RX10_9 dX10_triangles_23 (by first | assumption | decide | omega) (by first | rfl | assumption) rfl ?_
      refine k_icmp_ge (tgt := 160) (pc' := 29) dX10_triangles_26 rfl (fun _ => ?_) (fun zz_ => absurd (nI_le (by omega) (by omega)) zz_)
      refine k_iload_n (pc' := 161) dX10_triangles_160 rfl ?_
      refine k_if_ne (tgt := 168) (pc' := 164) dX10_triangles_161 rfl (fun zz_ => absurd h0 zz_) (fun _ => ?_)
      refine k_iload_n (pc' := 165) dX10_triangles_164 rfl ?_
      refine k_goto (tgt := 169) dX10_triangles_165 rfl ?_
      refine p_ireturn dX10_triangles_169 rfl ?_
      exact ⟨by rw [if_pos h0], rfl⟩
    · refine k_iload (pc' := 22) dX10_triangles_20 rfl ?_
      refine k_aload_n (pc' := 23) dX10_triangles_22 rfl ?_
      refine p_get (pc' := 26) clX10 (Nat.le_of_ble_eq_true rfl) fl_RX10_9 dX10_triangles_23 (by first | assumption | decide | omega) (by first | rfl | assumption) rfl ?_
      refine k_icmp_ge (tgt := 160) (pc' := 29) dX10_triangles_26 rfl (fun _ => ?_) (fun zz_ => absurd (nI_le (by omega) (by omega)) zz_)
      refine k_iload_n (pc' := 161) dX10_triangles_160 rfl ?_
      refine k_if_ne (tgt := 168) (pc' := 164) dX10_triangles_161 rfl (fun _ => ?_) (fun zz_ => absurd zz_ h0)
      refine k_iload_n (pc' := 169) dX10_triangles_168 rfl ?_
      refine p_ireturn dX10_triangles_169 rfl ?_
      refine ⟨?_, rfl⟩
      rw [if_neg h0, if_pos]
      rw [iEq]
      have : x.toInt ≠ 0 := fun q => h0 (by rw [iEq]; exact q)
      show x.toInt = 1
      omega
theorem m_rounds (hN : 2 ≤ N) (hN6 : N ≤ 6) {x : Int32} : ConP G mX10_rounds 2 [.ref (adr G 84), .int x] (putM G σ N D T z a tb) (rI (if x = 0 then (mRo N (a 85)).1 else if x = 1 then (mRo N (a 85)).2 else -1) (putM G σ N D T z a tb)) := by
  generalize hR : mRo N (a 85) = R
  refine ConP.of rfl (Nat.le_of_ble_eq_true rfl) ?_
  refine k_iload_n (pc' := 1) dX10_rounds_0 rfl ?_
  refine k_i2l (pc' := 2) dX10_rounds_1 rfl ?_
  refine k_lconst (pc' := 3) (v := 0) dX10_rounds_2 rfl ?_
  refine k_lconst (pc' := 4) (v := 1) dX10_rounds_3 rfl ?_
  refine p_sI (ν := mX10_in) (pc' := 7) dX10_rounds_4 ml_RX10_77 mo_X10_in ms_X10_in (Nat.le_of_ble_eq_true rfl) rfl rfl (Nat.le_of_ble_eq_true rfl) (by decide) (c_in) ?_
  refine k_if_ne (tgt := 12) (pc' := 10) dX10_rounds_7 rfl (fun c_7 => ?_) (fun c_7 => ?_)
  rotate_left
  · rw [bI_eq, i2l_e, show (0 : Int64).toInt = 0 from rfl, show (1 : Int64).toInt = 1 from rfl] at c_7
    refine k_iconst (pc' := 11) (v := -1) dX10_rounds_10 rfl ?_
    refine p_ireturn dX10_rounds_11 rfl ?_
    refine ⟨?_, rfl⟩
    rw [if_neg (fun q => by subst q; exact c_7 (by decide)), if_neg (fun q => by subst q; exact c_7 (by decide))]
  rw [bI_ne, i2l_e, show (0 : Int64).toInt = 0 from rfl, show (1 : Int64).toInt = 1 from rfl] at c_7
  refine k_iconst (pc' := 13) (v := nI 0) dX10_rounds_12 rfl ?_
  refine k_istore_n (pc' := 14) dX10_rounds_13 (Nat.le_of_ble_eq_true rfl) rfl ?_
  refine k_bipush (pc' := 16) (v := -2) dX10_rounds_14 rfl ?_
  refine k_istore_n (pc' := 17) dX10_rounds_16 (Nat.le_of_ble_eq_true rfl) rfl ?_
  refine k_iconst (pc' := 18) (v := nI 0) dX10_rounds_17 rfl ?_
  refine k_istore (pc' := 20) dX10_rounds_18 (Nat.le_of_ble_eq_true rfl) rfl ?_
  refine loopU (fun i (s : I2) => ∀ y1 y2, OkP G mX10_rounds 2 (rI (if x = 0 then R.1 else if x = 1 then R.2 else -1) (putM G σ N D T z a tb)) 20 [some (.ref (adr G 84)), some (.int x), some (.int s.1), some (.int s.2), some (.int (nI i)), y1, y2] [] (putM G σ N D T z a tb)) (mRo3 N (a 85)) N 0 N (nI 0, -2) (by omega) ?_ ?_ none none
  · intro i s _ hi ih y1 y2
    refine k_iload (pc' := 22) dX10_rounds_20 rfl ?_
    refine k_aload_n (pc' := 23) dX10_rounds_22 rfl ?_
    refine p_get (pc' := 26) clX10 (Nat.le_of_ble_eq_true rfl) fl_RX10_9 dX10_rounds_23 (by first | assumption | decide | omega) (by first | rfl | assumption) rfl ?_
    refine k_icmp_ge (tgt := 152) (pc' := 29) dX10_rounds_26 rfl (fun zz_ => absurd zz_ (nI_ge (by omega) (by omega))) (fun _ => ?_)
    refine k_iload (pc' := 31) dX10_rounds_29 rfl ?_
    refine k_iconst (pc' := 32) (v := nI 1) dX10_rounds_31 rfl ?_
    refine k_iadd (pc' := 33) dX10_rounds_32 (by first | exact nI_add _ _ | rfl) ?_
    refine k_istore (pc' := 35) dX10_rounds_33 (Nat.le_of_ble_eq_true rfl) rfl ?_
    refine loopU (fun j (s : I2) => ∀ y2, OkP G mX10_rounds 2 (rI (if x = 0 then R.1 else if x = 1 then R.2 else -1) (putM G σ N D T z a tb)) 35 [some (.ref (adr G 84)), some (.int x), some (.int s.1), some (.int s.2), some (.int (nI i)), some (.int (nI j)), y2] [] (putM G σ N D T z a tb)) (mRo2 N (a 85) i) N (i + 1) (N - (i + 1)) s (by omega) ?_ ?_ y2
    · intro j s hij hj ih2 y2
      refine k_iload (pc' := 37) dX10_rounds_35 rfl ?_
      refine k_aload_n (pc' := 38) dX10_rounds_37 rfl ?_
      refine p_get (pc' := 41) clX10 (Nat.le_of_ble_eq_true rfl) fl_RX10_9 dX10_rounds_38 (by first | assumption | decide | omega) (by first | rfl | assumption) rfl ?_
      refine k_icmp_ge (tgt := 146) (pc' := 44) dX10_rounds_41 rfl (fun zz_ => absurd zz_ (nI_ge (by omega) (by omega))) (fun _ => ?_)
      refine k_iload (pc' := 46) dX10_rounds_44 rfl ?_
      refine k_iconst (pc' := 47) (v := nI 1) dX10_rounds_46 rfl ?_
      refine k_iadd (pc' := 48) dX10_rounds_47 (by first | exact nI_add _ _ | rfl) ?_
      refine k_istore (pc' := 50) dX10_rounds_48 (Nat.le_of_ble_eq_true rfl) rfl ?_
      refine loopU (fun k (s : I2) => OkP G mX10_rounds 2 (rI (if x = 0 then R.1 else if x = 1 then R.2 else -1) (putM G σ N D T z a tb)) 50 [some (.ref (adr G 84)), some (.int x), some (.int s.1), some (.int s.2), some (.int (nI i)), some (.int (nI j)), some (.int (nI k))] [] (putM G σ N D T z a tb)) (mRo1 (a 85) i j) N (j + 1) (N - (j + 1)) s (by omega) ?_ ?_
      · intro k s hjk hk ih3
        by_cases h3 : od (a 85 (6 * i + j) + a 85 (6 * i + k) + a 85 (6 * j + k)) = 0
        · rw [show mRo1 (a 85) i j k s = s from if_pos h3] at ih3
          refine k_iload (pc' := 52) dX10_rounds_50 rfl ?_
          refine k_aload_n (pc' := 53) dX10_rounds_52 rfl ?_
          refine p_get (pc' := 56) clX10 (Nat.le_of_ble_eq_true rfl) fl_RX10_9 dX10_rounds_53 (by first | assumption | decide | omega) (by first | rfl | assumption) rfl ?_
          refine k_icmp_ge (tgt := 140) (pc' := 59) dX10_rounds_56 rfl (fun zz_ => absurd zz_ (nI_ge (by omega) (by omega))) (fun _ => ?_)
          refine k_aload_n (pc' := 60) dX10_rounds_59 rfl ?_
          refine p_get (pc' := 63) clX10 (Nat.le_of_ble_eq_true rfl) fl_RX10_15 dX10_rounds_60 (by first | assumption | decide | omega) (by first | rfl | assumption) rfl ?_
          refine k_bipush (pc' := 65) (v := nI 6) dX10_rounds_63 rfl ?_
          refine k_iload (pc' := 67) dX10_rounds_65 rfl ?_
          refine k_imul (pc' := 68) dX10_rounds_67 (by first | exact pk_mul _ _ | rfl) ?_
          refine k_iload (pc' := 70) dX10_rounds_68 rfl ?_
          refine k_iadd (pc' := 71) dX10_rounds_70 (by first | exact nI_add _ _ | rfl) ?_
          refine p_ialdN (pc' := 72) dX10_rounds_71 (by first | assumption | decide | omega) (by first | rfl | assumption) (by first | decide | omega) (by first | omega | (simp only [mL85, mL86, mL87, mL88, mL89, mL90, mL91, mL92, mL93, mL94, mL95, mL96, mL97, mL98, mL100, mL101, mL102, mL103]; omega)) ?_
          refine k_aload_n (pc' := 73) dX10_rounds_72 rfl ?_
          refine p_get (pc' := 76) clX10 (Nat.le_of_ble_eq_true rfl) fl_RX10_15 dX10_rounds_73 (by first | assumption | decide | omega) (by first | rfl | assumption) rfl ?_
          refine k_bipush (pc' := 78) (v := nI 6) dX10_rounds_76 rfl ?_
          refine k_iload (pc' := 80) dX10_rounds_78 rfl ?_
          refine k_imul (pc' := 81) dX10_rounds_80 (by first | exact pk_mul _ _ | rfl) ?_
          refine k_iload (pc' := 83) dX10_rounds_81 rfl ?_
          refine k_iadd (pc' := 84) dX10_rounds_83 (by first | exact nI_add _ _ | rfl) ?_
          refine p_ialdN (pc' := 85) dX10_rounds_84 (by first | assumption | decide | omega) (by first | rfl | assumption) (by first | decide | omega) (by first | omega | (simp only [mL85, mL86, mL87, mL88, mL89, mL90, mL91, mL92, mL93, mL94, mL95, mL96, mL97, mL98, mL100, mL101, mL102, mL103]; omega)) ?_
          refine k_iadd (pc' := 86) (v := a 85 (6 * i + j) + a 85 (6 * i + k)) dX10_rounds_85 rfl ?_
          refine k_aload_n (pc' := 87) dX10_rounds_86 rfl ?_
          refine p_get (pc' := 90) clX10 (Nat.le_of_ble_eq_true rfl) fl_RX10_15 dX10_rounds_87 (by first | assumption | decide | omega) (by first | rfl | assumption) rfl ?_
          refine k_bipush (pc' := 92) (v := nI 6) dX10_rounds_90 rfl ?_
          refine k_iload (pc' := 94) dX10_rounds_92 rfl ?_
          refine k_imul (pc' := 95) dX10_rounds_94 (by first | exact pk_mul _ _ | rfl) ?_
          refine k_iload (pc' := 97) dX10_rounds_95 rfl ?_
          refine k_iadd (pc' := 98) dX10_rounds_97 (by first | exact nI_add _ _ | rfl) ?_
          refine p_ialdN (pc' := 99) dX10_rounds_98 (by first | assumption | decide | omega) (by first | rfl | assumption) (by first | decide | omega) (by first | omega | (simp only [mL85, mL86, mL87, mL88, mL89, mL90, mL91, mL92, mL93, mL94, mL95, mL96, mL97, mL98, mL100, mL101, mL102, mL103]; omega)) ?_
          refine k_iadd (pc' := 100) (v := a 85 (6 * i + j) + a 85 (6 * i + k) + a 85 (6 * j + k)) dX10_rounds_99 rfl ?_
          refine k_iconst (pc' := 101) (v := nI 2) dX10_rounds_100 rfl ?_
          refine k_irem (pc' := 102) (v := od (a 85 (6 * i + j) + a 85 (6 * i + k) + a 85 (6 * j + k))) dX10_rounds_101 (by decide) rfl ?_
          refine k_if_ne (tgt := 108) (pc' := 105) dX10_rounds_102 rfl (fun zz_ => absurd h3 zz_) (fun _ => ?_)
          refine k_goto (tgt := 134) dX10_rounds_105 rfl ?_
          refine k_iinc (pc' := 137) (v := nI (k + 1)) dX10_rounds_134 rfl (nI_inc _) (Nat.le_of_ble_eq_true rfl) rfl ?_
          refine k_goto (tgt := 50) dX10_rounds_137 rfl ?_
          exact ih3
        · rw [show mRo1 (a 85) i j k s = (s.1 + nI 1, if s.1 = 0 then nI (100 * i + 10 * j + k) else s.2) from if_neg h3] at ih3
          refine k_iload (pc' := 52) dX10_rounds_50 rfl ?_
          refine k_aload_n (pc' := 53) dX10_rounds_52 rfl ?_
          refine p_get (pc' := 56) clX10 (Nat.le_of_ble_eq_true rfl) fl_RX10_9 dX10_rounds_53 (by first | assumption | decide | omega) (by first | rfl | assumption) rfl ?_
          refine k_icmp_ge (tgt := 140) (pc' := 59) dX10_rounds_56 rfl (fun zz_ => absurd zz_ (nI_ge (by omega) (by omega))) (fun _ => ?_)
          refine k_aload_n (pc' := 60) dX10_rounds_59 rfl ?_
          refine p_get (pc' := 63) clX10 (Nat.le_of_ble_eq_true rfl) fl_RX10_15 dX10_rounds_60 (by first | assumption | decide | omega) (by first | rfl | assumption) rfl ?_
          refine k_bipush (pc' := 65) (v := nI 6) dX10_rounds_63 rfl ?_
          refine k_iload (pc' := 67) dX10_rounds_65 rfl ?_
          refine k_imul (pc' := 68) dX10_rounds_67 (by first | exact pk_mul _ _ | rfl) ?_
          refine k_iload (pc' := 70) dX10_rounds_68 rfl ?_
          refine k_iadd (pc' := 71) dX10_rounds_70 (by first | exact nI_add _ _ | rfl) ?_
          refine p_ialdN (pc' := 72) dX10_rounds_71 (by first | assumption | decide | omega) (by first | rfl | assumption) (by first | decide | omega) (by first | omega | (simp only [mL85, mL86, mL87, mL88, mL89, mL90, mL91, mL92, mL93, mL94, mL95, mL96, mL97, mL98, mL100, mL101, mL102, mL103]; omega)) ?_
          refine k_aload_n (pc' := 73) dX10_rounds_72 rfl ?_
          refine p_get (pc' := 76) clX10 (Nat.le_of_ble_eq_true rfl) fl_RX10_15 dX10_rounds_73 (by first | assumption | decide | omega) (by first | rfl | assumption) rfl ?_
          refine k_bipush (pc' := 78) (v := nI 6) dX10_rounds_76 rfl ?_
          refine k_iload (pc' := 80) dX10_rounds_78 rfl ?_
          refine k_imul (pc' := 81) dX10_rounds_80 (by first | exact pk_mul _ _ | rfl) ?_
          refine k_iload (pc' := 83) dX10_rounds_81 rfl ?_
          refine k_iadd (pc' := 84) dX10_rounds_83 (by first | exact nI_add _ _ | rfl) ?_
          refine p_ialdN (pc' := 85) dX10_rounds_84 (by first | assumption | decide | omega) (by first | rfl | assumption) (by first | decide | omega) (by first | omega | (simp only [mL85, mL86, mL87, mL88, mL89, mL90, mL91, mL92, mL93, mL94, mL95, mL96, mL97, mL98, mL100, mL101, mL102, mL103]; omega)) ?_
          refine k_iadd (pc' := 86) (v := a 85 (6 * i + j) + a 85 (6 * i + k)) dX10_rounds_85 rfl ?_
          refine k_aload_n (pc' := 87) dX10_rounds_86 rfl ?_
          refine p_get (pc' := 90) clX10 (Nat.le_of_ble_eq_true rfl) fl_RX10_15 dX10_rounds_87 (by first | assumption | decide | omega) (by first | rfl | assumption) rfl ?_
          refine k_bipush (pc' := 92) (v := nI 6) dX10_rounds_90 rfl ?_
          refine k_iload (pc' := 94) dX10_rounds_92 rfl ?_
          refine k_imul (pc' := 95) dX10_rounds_94 (by first | exact pk_mul _ _ | rfl) ?_
          refine k_iload (pc' := 97) dX10_rounds_95 rfl ?_
          refine k_iadd (pc' := 98) dX10_rounds_97 (by first | exact nI_add _ _ | rfl) ?_
          refine p_ialdN (pc' := 99) dX10_rounds_98 (by first | assumption | decide | omega) (by first | rfl | assumption) (by first | decide | omega) (by first | omega | (simp only [mL85, mL86, mL87, mL88, mL89, mL90, mL91, mL92, mL93, mL94, mL95, mL96, mL97, mL98, mL100, mL101, mL102, mL103]; omega)) ?_
          refine k_iadd (pc' := 100) (v := a 85 (6 * i + j) + a 85 (6 * i + k) + a 85 (6 * j + k)) dX10_rounds_99 rfl ?_
          refine k_iconst (pc' := 101) (v := nI 2) dX10_rounds_100 rfl ?_
          refine k_irem (pc' := 102) (v := od (a 85 (6 * i + j) + a 85 (6 * i + k) + a 85 (6 * j + k))) dX10_rounds_101 (by decide) rfl ?_
          refine k_if_ne (tgt := 108) (pc' := 105) dX10_rounds_102 rfl (fun _ => ?_) (fun zz_ => absurd zz_ h3)
          by_cases h4 : s.1 = 0
          · rw [if_pos h4] at ih3
            refine k_iload_n (pc' := 109) dX10_rounds_108 rfl ?_
            refine k_if_ne (tgt := 129) (pc' := 112) dX10_rounds_109 rfl (fun zz_ => absurd h4 zz_) (fun _ => ?_)
            refine k_bipush (pc' := 114) (v := nI 100) dX10_rounds_112 rfl ?_
            refine k_iload (pc' := 116) dX10_rounds_114 rfl ?_
            refine k_imul (pc' := 117) dX10_rounds_116 (by first | exact pk_mul _ _ | rfl) ?_
            refine k_bipush (pc' := 119) (v := nI 10) dX10_rounds_117 rfl ?_
            refine k_iload (pc' := 121) dX10_rounds_119 rfl ?_
            refine k_imul (pc' := 122) dX10_rounds_121 (by first | exact pk_mul _ _ | rfl) ?_
            refine k_iadd (pc' := 123) dX10_rounds_122 (by first | exact nI_add _ _ | rfl) ?_
            refine k_iload (pc' := 125) dX10_rounds_123 rfl ?_
            refine k_iadd (pc' := 126) dX10_rounds_125 (by first | exact nI_add _ _ | rfl) ?_
            refine k_goto (tgt := 130) dX10_rounds_126 rfl ?_
            refine k_istore_n (pc' := 131) dX10_rounds_130 (Nat.le_of_ble_eq_true rfl) rfl ?_
            refine k_iinc (pc' := 134) (v := s.1 + nI 1) dX10_rounds_131 rfl rfl (Nat.le_of_ble_eq_true rfl) rfl ?_
            refine k_iinc (pc' := 137) (v := nI (k + 1)) dX10_rounds_134 rfl (nI_inc _) (Nat.le_of_ble_eq_true rfl) rfl ?_
            refine k_goto (tgt := 50) dX10_rounds_137 rfl ?_
            exact ih3
          · rw [if_neg h4] at ih3
            refine k_iload_n (pc' := 109) dX10_rounds_108 rfl ?_
            refine k_if_ne (tgt := 129) (pc' := 112) dX10_rounds_109 rfl (fun _ => ?_) (fun zz_ => absurd zz_ h4)
            refine k_iload_n (pc' := 130) dX10_rounds_129 rfl ?_
            refine k_istore_n (pc' := 131) dX10_rounds_130 (Nat.le_of_ble_eq_true rfl) rfl ?_
            refine k_iinc (pc' := 134) (v := s.1 + nI 1) dX10_rounds_131 rfl rfl (Nat.le_of_ble_eq_true rfl) rfl ?_
            refine k_iinc (pc' := 137) (v := nI (k + 1)) dX10_rounds_134 rfl (nI_inc _) (Nat.le_of_ble_eq_true rfl) rfl ?_
            refine k_goto (tgt := 50) dX10_rounds_137 rfl ?_
            exact ih3
      · refine k_iload (pc' := 52) dX10_rounds_50 rfl ?_
        refine k_aload_n (pc' := 53) dX10_rounds_52 rfl ?_
        refine p_get (pc' := 56) clX10 (Nat.le_of_ble_eq_true rfl) fl_RX10_9 dX10_rounds_53 (by first | assumption | decide | omega) (by first | rfl | assumption) rfl ?_
        refine k_icmp_ge (tgt := 140) (pc' := 59) dX10_rounds_56 rfl (fun _ => ?_) (fun zz_ => absurd (nI_le (by omega) (by omega)) zz_)
        refine k_iinc (pc' := 143) (v := nI (j + 1)) dX10_rounds_140 rfl (nI_inc _) (Nat.le_of_ble_eq_true rfl) rfl ?_
        refine k_goto (tgt := 35) dX10_rounds_143 rfl ?_
        exact ih2 _
    · intro y2
      refine k_iload (pc' := 37) dX10_rounds_35 rfl ?_
      refine k_aload_n (pc' := 38) dX10_rounds_37 rfl ?_
      refine p_get (pc' := 41) clX10 (Nat.le_of_ble_eq_true rfl) fl_RX10_9 dX10_rounds_38 (by first | assumption | decide | omega) (by first | rfl | assumption) rfl ?_
      refine k_icmp_ge (tgt := 146) (pc' := 44) dX10_rounds_41 rfl (fun _ => ?_) (fun zz_ => absurd (nI_le (by omega) (by omega)) zz_)
      refine k_iinc (pc' := 149) (v := nI (i + 1)) dX10_rounds_146 rfl (nI_inc _) (Nat.le_of_ble_eq_true rfl) rfl ?_
      refine k_goto (tgt := 20) dX10_rounds_149 rfl ?_
      exact ih _ _
  · intro y1 y2
    rw [show upn N 0 (mRo3 N (a 85)) (nI 0, -2) = R from hR]
    by_cases h0 : x = 0
    · refine k_iload (pc' := 22) dX10_rounds_20 rfl ?_
      refine k_aload_n (pc' := 23) dX10_rounds_22 rfl ?_
      refine p_get (pc' := 26) clX10 (Nat.le_of_ble_eq_true rfl) fl_RX10_9 dX10_rounds_23 (by first | assumption | decide | omega) (by first | rfl | assumption) rfl ?_
      refine k_icmp_ge (tgt := 152) (pc' := 29) dX10_rounds_26 rfl (fun _ => ?_) (fun zz_ => absurd (nI_le (by omega) (by omega)) zz_)
      refine k_iload_n (pc' := 153) dX10_rounds_152 rfl ?_
      refine k_if_ne (tgt := 160) (pc' := 156) dX10_rounds_153 rfl (fun zz_ => absurd h0 zz_) (fun _ => ?_)
      refine k_iload_n (pc' := 157) dX10_rounds_156 rfl ?_
      refine k_goto (tgt := 161) dX10_rounds_157 rfl ?_
      refine p_ireturn dX10_rounds_161 rfl ?_
      exact ⟨by rw [if_pos h0], rfl⟩
    · refine k_iload (pc' := 22) dX10_rounds_20 rfl ?_
      refine k_aload_n (pc' := 23) dX10_rounds_22 rfl ?_
      refine p_get (pc' := 26) clX10 (Nat.le_of_ble_eq_true rfl) fl_RX10_9 dX10_rounds_23 (by first | assumption | decide | omega) (by first | rfl | assumption) rfl ?_
      refine k_icmp_ge (tgt := 152) (pc' := 29) dX10_rounds_26 rfl (fun _ => ?_) (fun zz_ => absurd (nI_le (by omega) (by omega)) zz_)
      refine k_iload_n (pc' := 153) dX10_rounds_152 rfl ?_
      refine k_if_ne (tgt := 160) (pc' := 156) dX10_rounds_153 rfl (fun _ => ?_) (fun zz_ => absurd zz_ h0)
      refine k_iload_n (pc' := 161) dX10_rounds_160 rfl ?_
      refine p_ireturn dX10_rounds_161 rfl ?_
      refine ⟨?_, rfl⟩
      rw [if_neg h0, if_pos]
      rw [iEq]
      have : x.toInt ≠ 0 := fun q => h0 (by rw [iEq]; exact q)
      show x.toInt = 1
      omega
end MODEL5
