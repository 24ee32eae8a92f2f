section MODEL4
variable {G : GT} {σ : Sto} {N D T : Nat} {z : Nat → Int32} {a : Nat → Nat → Int32} {tb : Nat → Int64}
theorem m_cut (hN : 2 ≤ N) (hN6 : N ≤ 6) (hD : D ≤ 8) {x w : Int32} : ConP G mX10_cut 4 [.ref (adr G 84), .int x, .int w] (putM G σ N D T z a tb) (fun v σ' => (¬ ((1 ≤ x.toInt ∧ x.toInt ≤ lC N) ∧ (-99 ≤ w.toInt ∧ w.toInt ≤ 99)) ∧ rI (-1) (putM G σ N D T z a tb) v σ') ∨ ((1 ≤ x.toInt ∧ x.toInt ≤ lC N) ∧ (-99 ≤ w.toInt ∧ w.toInt ≤ 99) ∧ ¬ cutOk N x w (a 85) ∧ rI (-5) (putM G σ N D T z a tb) v σ') ∨ ((1 ≤ x.toInt ∧ x.toInt ≤ lC N) ∧ (-99 ≤ w.toInt ∧ w.toInt ≤ 99) ∧ cutOk N x w (a 85) ∧ rI (mAll N ((mDe N D z a (mCut N x w (a 85))).2 85)) (putM G σ N (mDe N D z a (mCut N x w (a 85))).1 T (va_up z 18 (nI N)) (mDe N D z a (mCut N x w (a 85))).2 tb) v σ')) := by
  generalize hF : mCut N x w (a 85) = F
  generalize hQ : (fun v σ' => (¬ ((1 ≤ x.toInt ∧ x.toInt ≤ lC N) ∧ (-99 ≤ w.toInt ∧ w.toInt ≤ 99)) ∧ rI (-1) (putM G σ N D T z a tb) v σ') ∨ ((1 ≤ x.toInt ∧ x.toInt ≤ lC N) ∧ (-99 ≤ w.toInt ∧ w.toInt ≤ 99) ∧ ¬ cutOk N x w (a 85) ∧ rI (-5) (putM G σ N D T z a tb) v σ') ∨ ((1 ≤ x.toInt ∧ x.toInt ≤ lC N) ∧ (-99 ≤ w.toInt ∧ w.toInt ≤ 99) ∧ cutOk N x w (a 85) ∧ rI (mAll N ((mDe N D z a F).2 85)) (putM G σ N (mDe N D z a F).1 T (va_up z 18 (nI N)) (mDe N D z a F).2 tb) v σ')) = Qf
  refine ConP.of rfl (Nat.le_of_ble_eq_true rfl) ?_
  refine k_aload_n (pc' := 1) dX10_cut_0 rfl ?_
  refine k_iload_n (pc' := 2) dX10_cut_1 rfl ?_
  refine p_vI (ν := mX10_isCut) (pc' := 5) dX10_cut_2 ml_RX10_122 mo_X10_isCut mv_X10_isCut clX10 (Nat.le_of_ble_eq_true rfl) rfl rfl (Nat.le_of_ble_eq_true rfl) (by first | assumption | decide | omega) (by first | rfl | assumption) (by decide) (c_isCut hN hN6) ?_
  refine k_if_eq (tgt := 22) (pc' := 8) dX10_cut_5 rfl (fun c_5 => ?_) (fun c_5 => ?_)
  · rw [bI_eq] at c_5
    refine k_iconst (pc' := 23) (v := -1) dX10_cut_22 rfl ?_
    refine p_ireturn dX10_cut_23 rfl ?_
    rw [← hQ]
    exact Or.inl ⟨fun q => c_5 q.1, rfl, rfl⟩
  rw [bI_ne] at c_5
  refine k_iload_n (pc' := 9) dX10_cut_8 rfl ?_
  refine k_i2l (pc' := 10) dX10_cut_9 rfl ?_
  refine k_ldc2 (pc' := 13)  dX10_cut_10 cl_RX10_125 ?_
  refine k_ldc2 (pc' := 16)  dX10_cut_13 cl_RX10_127 ?_
  refine p_sI (ν := mX10_in) (pc' := 19) dX10_cut_16 ml_RX10_77 mo_X10_in ms_X10_in (Nat.le_of_ble_eq_true rfl) rfl rfl (Nat.le_of_ble_eq_true rfl) (by decide) (c_in) ?_
  refine k_if_ne (tgt := 24) (pc' := 22) dX10_cut_19 rfl (fun c_19 => ?_) (fun c_19 => ?_)
  rotate_left
  · rw [bI_eq, i2l_e, show (-99 : Int64).toInt = -99 from rfl, show (99 : Int64).toInt = 99 from rfl] at c_19
    refine k_iconst (pc' := 23) (v := -1) dX10_cut_22 rfl ?_
    refine p_ireturn dX10_cut_23 rfl ?_
    rw [← hQ]
    exact Or.inl ⟨fun q => c_19 q.2, rfl, rfl⟩
  rw [bI_ne, i2l_e, show (-99 : Int64).toInt = -99 from rfl, show (99 : Int64).toInt = 99 from rfl] at c_19
  refine k_iconst (pc' := 25) (v := nI 0) dX10_cut_24 rfl ?_
  refine k_istore_n (pc' := 26) dX10_cut_25 (Nat.le_of_ble_eq_true rfl) rfl ?_
  have write : cutOk N x w (a 85) → ∀ y1 y2, OkP G mX10_cut 4 Qf 98 [some (.ref (adr G 84)), some (.int x), some (.int w), y1, y2] [] (putM G σ N D T z a tb) := by
    intro hok y1 y2
    refine k_aload_n (pc' := 99) dX10_cut_98 rfl ?_
    refine p_vV (ν := mX10_ahead) (pc' := 102) dX10_cut_99 ml_RX10_112 mo_X10_ahead mv_X10_ahead clX10 (Nat.le_of_ble_eq_true rfl) rfl rfl (Nat.le_of_ble_eq_true rfl) (by first | assumption | decide | omega) (by first | rfl | assumption) (by decide) (c_ahead) ?_
    refine k_iconst (pc' := 103) (v := nI 0) dX10_cut_102 rfl ?_
    refine k_istore_n (pc' := 104) dX10_cut_103 (Nat.le_of_ble_eq_true rfl) rfl ?_
    have key := loopU (fun i f => ∀ y1, OkP G mX10_cut 4 Qf 104 [some (.ref (adr G 84)), some (.int x), some (.int w), some (.int (nI i)), y1] [] (putM G σ N D T (va_up z 18 (nI N)) (va_up (mAh a) 85 f) tb)) (mCut2 N x w) N 0 N (a 85) (by omega) ?_ ?_ y2
    · have e : va_up (mAh a) 85 (a 85) = mAh a := up_id (up_n (by decide))
      rw [e] at key
      exact key
    · intro i f _ hi ih y1
      refine k_iload_n (pc' := 105) dX10_cut_104 rfl ?_
      refine k_aload_n (pc' := 106) dX10_cut_105 rfl ?_
      refine p_get (pc' := 109) clX10 (Nat.le_of_ble_eq_true rfl) fl_RX10_9 dX10_cut_106 (by first | assumption | decide | omega) (by first | rfl | assumption) rfl ?_
      refine k_icmp_ge (tgt := 169) (pc' := 112) dX10_cut_109 rfl (fun zz_ => absurd zz_ (nI_ge (by omega) (by omega))) (fun _ => ?_)
      refine k_iload_n (pc' := 113) dX10_cut_112 rfl ?_
      refine k_iconst (pc' := 114) (v := nI 1) dX10_cut_113 rfl ?_
      refine k_iadd (pc' := 115) dX10_cut_114 (by first | exact nI_add _ _ | rfl) ?_
      refine k_istore (pc' := 117) dX10_cut_115 (Nat.le_of_ble_eq_true rfl) rfl ?_
      refine loopU (fun j f => OkP G mX10_cut 4 Qf 117 [some (.ref (adr G 84)), some (.int x), some (.int w), some (.int (nI i)), some (.int (nI j))] [] (putM G σ N D T (va_up z 18 (nI N)) (va_up (mAh a) 85 f) tb)) (mCut1 x w i) N (i + 1) (N - (i + 1)) f (by omega) ?_ ?_
      · intro j f hij hj ih2
        by_cases hs : sepP x i j
        · rw [show mCut1 x w i j f = mIs i j (f (6 * i + j) + w) f from if_pos hs] at ih2
          refine k_iload (pc' := 119) dX10_cut_117 rfl ?_
          refine k_aload_n (pc' := 120) dX10_cut_119 rfl ?_
          refine p_get (pc' := 123) clX10 (Nat.le_of_ble_eq_true rfl) fl_RX10_9 dX10_cut_120 (by first | assumption | decide | omega) (by first | rfl | assumption) rfl ?_
          refine k_icmp_ge (tgt := 163) (pc' := 126) dX10_cut_123 rfl (fun zz_ => absurd zz_ (nI_ge (by omega) (by omega))) (fun _ => ?_)
          refine k_iload_n (pc' := 127) dX10_cut_126 rfl ?_
          refine k_iload_n (pc' := 128) dX10_cut_127 rfl ?_
          refine k_iload (pc' := 130) dX10_cut_128 rfl ?_
          refine p_sI (ν := mX10_separates) (pc' := 133) dX10_cut_130 ml_RX10_129 mo_X10_separates ms_X10_separates (Nat.le_of_ble_eq_true rfl) rfl rfl (Nat.le_of_ble_eq_true rfl) (by decide) (c_separates (by omega) (by omega)) ?_
          refine k_if_eq (tgt := 157) (pc' := 136) dX10_cut_133 rfl (fun zz_ => absurd zz_ (by rw [bI_eq]; exact fun q => q hs)) (fun _ => ?_)
          refine k_aload_n (pc' := 137) dX10_cut_136 rfl ?_
          refine k_iload_n (pc' := 138) dX10_cut_137 rfl ?_
          refine k_iload (pc' := 140) dX10_cut_138 rfl ?_
          refine k_aload_n (pc' := 141) dX10_cut_140 rfl ?_
          refine p_get (pc' := 144) clX10 (Nat.le_of_ble_eq_true rfl) fl_RX10_15 dX10_cut_141 (by first | assumption | decide | omega) (by first | rfl | assumption) rfl ?_
          refine k_bipush (pc' := 146) (v := nI 6) dX10_cut_144 rfl ?_
          refine k_iload_n (pc' := 147) dX10_cut_146 rfl ?_
          refine k_imul (pc' := 148) dX10_cut_147 (by first | exact pk_mul _ _ | rfl) ?_
          refine k_iload (pc' := 150) dX10_cut_148 rfl ?_
          refine k_iadd (pc' := 151) dX10_cut_150 (by first | exact nI_add _ _ | rfl) ?_
          refine p_ialdN (pc' := 152) dX10_cut_151 (by first | assumption | decide | omega) (by first | rfl | assumption) (by first | decide | omega) (by first | omega | (simp only [mL85, mL86, mL87, mL88, mL89, mL90, mL91, mL92, mL93, mL94, mL95, mL96, mL97, mL98, mL100, mL101, mL102, mL103]; omega)) ?_
          refine k_iload_n (pc' := 153) dX10_cut_152 rfl ?_
          refine k_iadd (pc' := 154) (v := f (6 * i + j) + w) dX10_cut_153 rfl ?_
          refine p_vV (ν := mX10_is) (pc' := 157) dX10_cut_154 ml_RX10_115 mo_X10_is mv_X10_is clX10 (Nat.le_of_ble_eq_true rfl) rfl rfl (Nat.le_of_ble_eq_true rfl) (by first | assumption | decide | omega) (by first | rfl | assumption) (by decide) (c_is (a := va_up (mAh a) 85 f) (by omega) (by omega)) ?_
          refine k_iinc (pc' := 160) (v := nI (j + 1)) dX10_cut_157 rfl (nI_inc _) (Nat.le_of_ble_eq_true rfl) rfl ?_
          refine k_goto (tgt := 117) dX10_cut_160 rfl ?_
          have e3 : ∀ v, va_up (va_up (mAh a) 85 f) 85 (mIs i j v (va_up (mAh a) 85 f 85)) = va_up (mAh a) 85 (mIs i j v f) := fun v => by rw [up_up, up_s]
          rw [e3]
          exact ih2
        · rw [show mCut1 x w i j f = f from if_neg hs] at ih2
          refine k_iload (pc' := 119) dX10_cut_117 rfl ?_
          refine k_aload_n (pc' := 120) dX10_cut_119 rfl ?_
          refine p_get (pc' := 123) clX10 (Nat.le_of_ble_eq_true rfl) fl_RX10_9 dX10_cut_120 (by first | assumption | decide | omega) (by first | rfl | assumption) rfl ?_
          refine k_icmp_ge (tgt := 163) (pc' := 126) dX10_cut_123 rfl (fun zz_ => absurd zz_ (nI_ge (by omega) (by omega))) (fun _ => ?_)
          refine k_iload_n (pc' := 127) dX10_cut_126 rfl ?_
          refine k_iload_n (pc' := 128) dX10_cut_127 rfl ?_
          refine k_iload (pc' := 130) dX10_cut_128 rfl ?_
          refine p_sI (ν := mX10_separates) (pc' := 133) dX10_cut_130 ml_RX10_129 mo_X10_separates ms_X10_separates (Nat.le_of_ble_eq_true rfl) rfl rfl (Nat.le_of_ble_eq_true rfl) (by decide) (c_separates (by omega) (by omega)) ?_
          refine k_if_eq (tgt := 157) (pc' := 136) dX10_cut_133 rfl (fun _ => ?_) (fun zz_ => absurd (by rw [bI_eq]; exact hs) zz_)
          refine k_iinc (pc' := 160) (v := nI (j + 1)) dX10_cut_157 rfl (nI_inc _) (Nat.le_of_ble_eq_true rfl) rfl ?_
          refine k_goto (tgt := 117) dX10_cut_160 rfl ?_
          exact ih2
      · refine k_iload (pc' := 119) dX10_cut_117 rfl ?_
        refine k_aload_n (pc' := 120) dX10_cut_119 rfl ?_
        refine p_get (pc' := 123) clX10 (Nat.le_of_ble_eq_true rfl) fl_RX10_9 dX10_cut_120 (by first | assumption | decide | omega) (by first | rfl | assumption) rfl ?_
        refine k_icmp_ge (tgt := 163) (pc' := 126) dX10_cut_123 rfl (fun _ => ?_) (fun zz_ => absurd (nI_le (by omega) (by omega)) zz_)
        refine k_iinc (pc' := 166) (v := nI (i + 1)) dX10_cut_163 rfl (nI_inc _) (Nat.le_of_ble_eq_true rfl) rfl ?_
        refine k_goto (tgt := 104) dX10_cut_166 rfl ?_
        exact ih _
    · intro y1
      rw [show upn N 0 (mCut2 N x w) (a 85) = F from hF]
      refine k_iload_n (pc' := 105) dX10_cut_104 rfl ?_
      refine k_aload_n (pc' := 106) dX10_cut_105 rfl ?_
      refine p_get (pc' := 109) clX10 (Nat.le_of_ble_eq_true rfl) fl_RX10_9 dX10_cut_106 (by first | assumption | decide | omega) (by first | rfl | assumption) rfl ?_
      refine k_icmp_ge (tgt := 169) (pc' := 112) dX10_cut_109 rfl (fun _ => ?_) (fun zz_ => absurd (nI_le (by omega) (by omega)) zz_)
      refine k_aload_n (pc' := 170) dX10_cut_169 rfl ?_
      refine p_vI (ν := mX10_done) (pc' := 173) dX10_cut_170 ml_RX10_119 mo_X10_done mv_X10_done clX10 (Nat.le_of_ble_eq_true rfl) rfl rfl (Nat.le_of_ble_eq_true rfl) (by first | assumption | decide | omega) (by first | rfl | assumption) (by decide) (c_done hN hN6 hD) ?_
      refine k_pop (pc' := 174) dX10_cut_173 rfl ?_
      refine k_aload_n (pc' := 175) dX10_cut_174 rfl ?_
      refine p_vI (ν := mX10_all) (pc' := 178) dX10_cut_175 ml_RX10_133 mo_X10_all mv_X10_all clX10 (Nat.le_of_ble_eq_true rfl) rfl rfl (Nat.le_of_ble_eq_true rfl) (by first | assumption | decide | omega) (by first | rfl | assumption) (by decide) (c_all hN hN6) ?_
      refine p_ireturn dX10_cut_178 rfl ?_
      rw [← hQ]
      exact Or.inr (Or.inr ⟨c_5, c_19, hok, rfl, rfl⟩)
  have look : ∀ n i, i + n = N → (∀ i', i' < i → ∀ j, j < N → i' < j → sepP x i' j → 0 ≤ (a 85 (6 * i' + j) + w).toInt ∧ (a 85 (6 * i' + j) + w).toInt ≤ 999) → ∀ y, OkP G mX10_cut 4 Qf 26 [some (.ref (adr G 84)), some (.int x), some (.int w), some (.int (nI i)), y] [] (putM G σ N D T z a tb) := by
    intro n
    induction n with
    | zero =>
      intro i hi hp y
      refine k_iload_n (pc' := 27) dX10_cut_26 rfl ?_
      refine k_aload_n (pc' := 28) dX10_cut_27 rfl ?_
      refine p_get (pc' := 31) clX10 (Nat.le_of_ble_eq_true rfl) fl_RX10_9 dX10_cut_28 (by first | assumption | decide | omega) (by first | rfl | assumption) rfl ?_
      refine k_icmp_ge (tgt := 98) (pc' := 34) dX10_cut_31 rfl (fun _ => ?_) (fun zz_ => absurd (nI_le (by omega) (by omega)) zz_)
      exact write (fun i' h => hp i' (by omega)) _ _
    | succ n ih =>
      intro i hi hp y
      refine k_iload_n (pc' := 27) dX10_cut_26 rfl ?_
      refine k_aload_n (pc' := 28) dX10_cut_27 rfl ?_
      refine p_get (pc' := 31) clX10 (Nat.le_of_ble_eq_true rfl) fl_RX10_9 dX10_cut_28 (by first | assumption | decide | omega) (by first | rfl | assumption) rfl ?_
      refine k_icmp_ge (tgt := 98) (pc' := 34) dX10_cut_31 rfl (fun zz_ => absurd zz_ (nI_ge (by omega) (by omega))) (fun _ => ?_)
      refine k_iload_n (pc' := 35) dX10_cut_34 rfl ?_
      refine k_iconst (pc' := 36) (v := nI 1) dX10_cut_35 rfl ?_
      refine k_iadd (pc' := 37) dX10_cut_36 (by first | exact nI_add _ _ | rfl) ?_
      refine k_istore (pc' := 39) dX10_cut_37 (Nat.le_of_ble_eq_true rfl) rfl ?_
      have inner : ∀ m j, j + m = N → i < j → (∀ j', j' < j → i < j' → sepP x i j' → 0 ≤ (a 85 (6 * i + j') + w).toInt ∧ (a 85 (6 * i + j') + w).toInt ≤ 999) → OkP G mX10_cut 4 Qf 39 [some (.ref (adr G 84)), some (.int x), some (.int w), some (.int (nI i)), some (.int (nI j))] [] (putM G σ N D T z a tb) := by
        intro m
        induction m with
        | zero =>
          intro j hj hij hq
          refine k_iload (pc' := 41) dX10_cut_39 rfl ?_
          refine k_aload_n (pc' := 42) dX10_cut_41 rfl ?_
          refine p_get (pc' := 45) clX10 (Nat.le_of_ble_eq_true rfl) fl_RX10_9 dX10_cut_42 (by first | assumption | decide | omega) (by first | rfl | assumption) rfl ?_
          refine k_icmp_ge (tgt := 92) (pc' := 48) dX10_cut_45 rfl (fun _ => ?_) (fun zz_ => absurd (nI_le (by omega) (by omega)) zz_)
          refine k_iinc (pc' := 95) (v := nI (i + 1)) dX10_cut_92 rfl (nI_inc _) (Nat.le_of_ble_eq_true rfl) rfl ?_
          refine k_goto (tgt := 26) dX10_cut_95 rfl ?_
          refine ih (i + 1) (by omega) (fun i' h => ?_) _
          rcases Nat.lt_or_ge i' i with h2 | h2
          · exact hp i' h2
          · have : i' = i := by omega
            subst this
            exact fun j' h3 => hq j' (by omega)
        | succ m ihm =>
          intro j hj hij hq
          by_cases hs : sepP x i j
          · refine k_iload (pc' := 41) dX10_cut_39 rfl ?_
            refine k_aload_n (pc' := 42) dX10_cut_41 rfl ?_
            refine p_get (pc' := 45) clX10 (Nat.le_of_ble_eq_true rfl) fl_RX10_9 dX10_cut_42 (by first | assumption | decide | omega) (by first | rfl | assumption) rfl ?_
            refine k_icmp_ge (tgt := 92) (pc' := 48) dX10_cut_45 rfl (fun zz_ => absurd zz_ (nI_ge (by omega) (by omega))) (fun _ => ?_)
            refine k_iload_n (pc' := 49) dX10_cut_48 rfl ?_
            refine k_iload_n (pc' := 50) dX10_cut_49 rfl ?_
            refine k_iload (pc' := 52) dX10_cut_50 rfl ?_
            refine p_sI (ν := mX10_separates) (pc' := 55) dX10_cut_52 ml_RX10_129 mo_X10_separates ms_X10_separates (Nat.le_of_ble_eq_true rfl) rfl rfl (Nat.le_of_ble_eq_true rfl) (by decide) (c_separates (by omega) (by omega)) ?_
            refine k_if_eq (tgt := 86) (pc' := 58) dX10_cut_55 rfl (fun zz_ => absurd zz_ (by rw [bI_eq]; exact fun q => q hs)) (fun _ => ?_)
            refine k_aload_n (pc' := 59) dX10_cut_58 rfl ?_
            refine p_get (pc' := 62) clX10 (Nat.le_of_ble_eq_true rfl) fl_RX10_15 dX10_cut_59 (by first | assumption | decide | omega) (by first | rfl | assumption) rfl ?_
            refine k_bipush (pc' := 64) (v := nI 6) dX10_cut_62 rfl ?_
            refine k_iload_n (pc' := 65) dX10_cut_64 rfl ?_
            refine k_imul (pc' := 66) dX10_cut_65 (by first | exact pk_mul _ _ | rfl) ?_
            refine k_iload (pc' := 68) dX10_cut_66 rfl ?_
            refine k_iadd (pc' := 69) dX10_cut_68 (by first | exact nI_add _ _ | rfl) ?_
            refine p_ialdN (pc' := 70) dX10_cut_69 (by first | assumption | decide | omega) (by first | rfl | assumption) (by first | decide | omega) (by first | omega | (simp only [mL85, mL86, mL87, mL88, mL89, mL90, mL91, mL92, mL93, mL94, mL95, mL96, mL97, mL98, mL100, mL101, mL102, mL103]; omega)) ?_
            refine k_iload_n (pc' := 71) dX10_cut_70 rfl ?_
            refine k_iadd (pc' := 72) (v := a 85 (6 * i + j) + w) dX10_cut_71 rfl ?_
            refine k_i2l (pc' := 73) dX10_cut_72 rfl ?_
            refine k_lconst (pc' := 74) (v := 0) dX10_cut_73 rfl ?_
            refine k_ldc2 (pc' := 77)  dX10_cut_74 cl_RX10_110 ?_
            refine p_sI (ν := mX10_in) (pc' := 80) dX10_cut_77 ml_RX10_77 mo_X10_in ms_X10_in (Nat.le_of_ble_eq_true rfl) rfl rfl (Nat.le_of_ble_eq_true rfl) (by decide) (c_in) ?_
            by_cases hok : 0 ≤ (a 85 (6 * i + j) + w).toInt ∧ (a 85 (6 * i + j) + w).toInt ≤ 999
            · refine k_if_ne (tgt := 86) (pc' := 83) dX10_cut_80 rfl (fun _ => ?_) (fun zz_ => absurd zz_ (by rw [bI_ne, i2l_e, show (0 : Int64).toInt = 0 from rfl, show (999 : Int64).toInt = 999 from rfl]; exact hok))
              refine k_iinc (pc' := 89) (v := nI (j + 1)) dX10_cut_86 rfl (nI_inc _) (Nat.le_of_ble_eq_true rfl) rfl ?_
              refine k_goto (tgt := 39) dX10_cut_89 rfl ?_
              refine ihm (j + 1) (by omega) (by omega) (fun j' h => ?_)
              rcases Nat.lt_or_ge j' j with h2 | h2
              · exact hq j' h2
              · have : j' = j := by omega
                subst this
                exact fun _ _ => hok
            · refine k_if_ne (tgt := 86) (pc' := 83) dX10_cut_80 rfl (fun zz_ => absurd (by rw [bI_eq, i2l_e, show (0 : Int64).toInt = 0 from rfl, show (999 : Int64).toInt = 999 from rfl]; exact hok) zz_) (fun _ => ?_)
              refine k_bipush (pc' := 85) (v := -5) dX10_cut_83 rfl ?_
              refine p_ireturn dX10_cut_85 rfl ?_
              rw [← hQ]
              exact Or.inr (Or.inl ⟨c_5, c_19, fun q => hok (q i (by omega) j (by omega) hij hs), rfl, rfl⟩)
          · refine k_iload (pc' := 41) dX10_cut_39 rfl ?_
            refine k_aload_n (pc' := 42) dX10_cut_41 rfl ?_
            refine p_get (pc' := 45) clX10 (Nat.le_of_ble_eq_true rfl) fl_RX10_9 dX10_cut_42 (by first | assumption | decide | omega) (by first | rfl | assumption) rfl ?_
            refine k_icmp_ge (tgt := 92) (pc' := 48) dX10_cut_45 rfl (fun zz_ => absurd zz_ (nI_ge (by omega) (by omega))) (fun _ => ?_)
            refine k_iload_n (pc' := 49) dX10_cut_48 rfl ?_
            refine k_iload_n (pc' := 50) dX10_cut_49 rfl ?_
            refine k_iload (pc' := 52) dX10_cut_50 rfl ?_
            refine p_sI (ν := mX10_separates) (pc' := 55) dX10_cut_52 ml_RX10_129 mo_X10_separates ms_X10_separates (Nat.le_of_ble_eq_true rfl) rfl rfl (Nat.le_of_ble_eq_true rfl) (by decide) (c_separates (by omega) (by omega)) ?_
            refine k_if_eq (tgt := 86) (pc' := 58) dX10_cut_55 rfl (fun _ => ?_) (fun zz_ => absurd (by rw [bI_eq]; exact hs) zz_)
            refine k_iinc (pc' := 89) (v := nI (j + 1)) dX10_cut_86 rfl (nI_inc _) (Nat.le_of_ble_eq_true rfl) rfl ?_
            refine k_goto (tgt := 39) dX10_cut_89 rfl ?_
            refine ihm (j + 1) (by omega) (by omega) (fun j' h => ?_)
            rcases Nat.lt_or_ge j' j with h2 | h2
            · exact hq j' h2
            · have : j' = j := by omega
              subst this
              exact fun _ q => absurd q hs
      exact inner (N - (i + 1)) (i + 1) (by omega) (by omega) (fun j' h1 h2 => by omega)
  exact look N 0 (by omega) (fun i' h => by omega) none
theorem m_stretch (hN : 2 ≤ N) (hN6 : N ≤ 6) (hD : D ≤ 8) {x : Int32} : ConP G mX10_stretch 3 [.ref (adr G 84), .int x] (putM G σ N D T z a tb) (fun v σ' => (¬ (0 ≤ x.toInt ∧ x.toInt ≤ 99) ∧ rI (-1) (putM G σ N D T z a tb) v σ') ∨ ((0 ≤ x.toInt ∧ x.toInt ≤ 99) ∧ ¬ strOk N x (a 85) ∧ rI (-5) (putM G σ N D T z a tb) v σ') ∨ ((0 ≤ x.toInt ∧ x.toInt ≤ 99) ∧ strOk N x (a 85) ∧ rI (mAll N ((mDe N D z a (mSt N x (a 85))).2 85)) (putM G σ N (mDe N D z a (mSt N x (a 85))).1 T (va_up z 18 (nI N)) (mDe N D z a (mSt N x (a 85))).2 tb) v σ')) := by
  generalize hF : mSt N x (a 85) = F
  generalize hQ : (fun v σ' => (¬ (0 ≤ x.toInt ∧ x.toInt ≤ 99) ∧ rI (-1) (putM G σ N D T z a tb) v σ') ∨ ((0 ≤ x.toInt ∧ x.toInt ≤ 99) ∧ ¬ strOk N x (a 85) ∧ rI (-5) (putM G σ N D T z a tb) v σ') ∨ ((0 ≤ x.toInt ∧ x.toInt ≤ 99) ∧ strOk N x (a 85) ∧ rI (mAll N ((mDe N D z a F).2 85)) (putM G σ N (mDe N D z a F).1 T (va_up z 18 (nI N)) (mDe N D z a F).2 tb) v σ')) = Qf
  refine ConP.of rfl (Nat.le_of_ble_eq_true rfl) ?_
  refine k_iload_n (pc' := 1) dX10_stretch_0 rfl ?_
  refine k_i2l (pc' := 2) dX10_stretch_1 rfl ?_
  refine k_lconst (pc' := 3) (v := 0) dX10_stretch_2 rfl ?_
  refine k_ldc2 (pc' := 6)  dX10_stretch_3 cl_RX10_127 ?_
  refine p_sI (ν := mX10_in) (pc' := 9) dX10_stretch_6 ml_RX10_77 mo_X10_in ms_X10_in (Nat.le_of_ble_eq_true rfl) rfl rfl (Nat.le_of_ble_eq_true rfl) (by decide) (c_in) ?_
  refine k_if_ne (tgt := 14) (pc' := 12) dX10_stretch_9 rfl (fun c_9 => ?_) (fun c_9 => ?_)
  rotate_left
  · rw [bI_eq, i2l_e, show (0 : Int64).toInt = 0 from rfl, show (99 : Int64).toInt = 99 from rfl] at c_9
    refine k_iconst (pc' := 13) (v := -1) dX10_stretch_12 rfl ?_
    refine p_ireturn dX10_stretch_13 rfl ?_
    rw [← hQ]
    exact Or.inl ⟨c_9, rfl, rfl⟩
  rw [bI_ne, i2l_e, show (0 : Int64).toInt = 0 from rfl, show (99 : Int64).toInt = 99 from rfl] at c_9
  refine k_iconst (pc' := 15) (v := nI 0) dX10_stretch_14 rfl ?_
  refine k_istore_n (pc' := 16) dX10_stretch_15 (Nat.le_of_ble_eq_true rfl) rfl ?_
  have write : strOk N x (a 85) → ∀ y1 y2, OkP G mX10_stretch 3 Qf 70 [some (.ref (adr G 84)), some (.int x), y1, y2] [] (putM G σ N D T z a tb) := by
    intro hok y1 y2
    refine k_aload_n (pc' := 71) dX10_stretch_70 rfl ?_
    refine p_vV (ν := mX10_ahead) (pc' := 74) dX10_stretch_71 ml_RX10_112 mo_X10_ahead mv_X10_ahead clX10 (Nat.le_of_ble_eq_true rfl) rfl rfl (Nat.le_of_ble_eq_true rfl) (by first | assumption | decide | omega) (by first | rfl | assumption) (by decide) (c_ahead) ?_
    refine k_iconst (pc' := 75) (v := nI 0) dX10_stretch_74 rfl ?_
    refine k_istore_n (pc' := 76) dX10_stretch_75 (Nat.le_of_ble_eq_true rfl) rfl ?_
    have key := loopU (fun i f => ∀ y1, OkP G mX10_stretch 3 Qf 76 [some (.ref (adr G 84)), some (.int x), some (.int (nI i)), y1] [] (putM G σ N D T (va_up z 18 (nI N)) (va_up (mAh a) 85 f) tb)) (mSt2 N x) N 0 N (a 85) (by omega) ?_ ?_ y2
    · have e : va_up (mAh a) 85 (a 85) = mAh a := up_id (up_n (by decide))
      rw [e] at key
      exact key
    · intro i f _ hi ih y1
      refine k_iload_n (pc' := 77) dX10_stretch_76 rfl ?_
      refine k_aload_n (pc' := 78) dX10_stretch_77 rfl ?_
      refine p_get (pc' := 81) clX10 (Nat.le_of_ble_eq_true rfl) fl_RX10_9 dX10_stretch_78 (by first | assumption | decide | omega) (by first | rfl | assumption) rfl ?_
      refine k_icmp_ge (tgt := 127) (pc' := 84) dX10_stretch_81 rfl (fun zz_ => absurd zz_ (nI_ge (by omega) (by omega))) (fun _ => ?_)
      refine k_iload_n (pc' := 85) dX10_stretch_84 rfl ?_
      refine k_iconst (pc' := 86) (v := nI 1) dX10_stretch_85 rfl ?_
      refine k_iadd (pc' := 87) dX10_stretch_86 (by first | exact nI_add _ _ | rfl) ?_
      refine k_istore_n (pc' := 88) dX10_stretch_87 (Nat.le_of_ble_eq_true rfl) rfl ?_
      refine loopU (fun j f => OkP G mX10_stretch 3 Qf 88 [some (.ref (adr G 84)), some (.int x), some (.int (nI i)), some (.int (nI j))] [] (putM G σ N D T (va_up z 18 (nI N)) (va_up (mAh a) 85 f) tb)) (mSt1 x i) N (i + 1) (N - (i + 1)) f (by omega) ?_ ?_
      · intro j f hij hj ih2
        refine k_iload_n (pc' := 89) dX10_stretch_88 rfl ?_
        refine k_aload_n (pc' := 90) dX10_stretch_89 rfl ?_
        refine p_get (pc' := 93) clX10 (Nat.le_of_ble_eq_true rfl) fl_RX10_9 dX10_stretch_90 (by first | assumption | decide | omega) (by first | rfl | assumption) rfl ?_
        refine k_icmp_ge (tgt := 121) (pc' := 96) dX10_stretch_93 rfl (fun zz_ => absurd zz_ (nI_ge (by omega) (by omega))) (fun _ => ?_)
        refine k_aload_n (pc' := 97) dX10_stretch_96 rfl ?_
        refine k_iload_n (pc' := 98) dX10_stretch_97 rfl ?_
        refine k_iload_n (pc' := 99) dX10_stretch_98 rfl ?_
        refine k_iload_n (pc' := 100) dX10_stretch_99 rfl ?_
        refine k_aload_n (pc' := 101) dX10_stretch_100 rfl ?_
        refine p_get (pc' := 104) clX10 (Nat.le_of_ble_eq_true rfl) fl_RX10_15 dX10_stretch_101 (by first | assumption | decide | omega) (by first | rfl | assumption) rfl ?_
        refine k_bipush (pc' := 106) (v := nI 6) dX10_stretch_104 rfl ?_
        refine k_iload_n (pc' := 107) dX10_stretch_106 rfl ?_
        refine k_imul (pc' := 108) dX10_stretch_107 (by first | exact pk_mul _ _ | rfl) ?_
        refine k_iload_n (pc' := 109) dX10_stretch_108 rfl ?_
        refine k_iadd (pc' := 110) dX10_stretch_109 (by first | exact nI_add _ _ | rfl) ?_
        refine p_ialdN (pc' := 111) dX10_stretch_110 (by first | assumption | decide | omega) (by first | rfl | assumption) (by first | decide | omega) (by first | omega | (simp only [mL85, mL86, mL87, mL88, mL89, mL90, mL91, mL92, mL93, mL94, mL95, mL96, mL97, mL98, mL100, mL101, mL102, mL103]; omega)) ?_
        refine k_imul (pc' := 112) (v := x * f (6 * i + j)) dX10_stretch_111 rfl ?_
        refine p_vV (ν := mX10_is) (pc' := 115) dX10_stretch_112 ml_RX10_115 mo_X10_is mv_X10_is clX10 (Nat.le_of_ble_eq_true rfl) rfl rfl (Nat.le_of_ble_eq_true rfl) (by first | assumption | decide | omega) (by first | rfl | assumption) (by decide) (c_is (a := va_up (mAh a) 85 f) (by omega) (by omega)) ?_
        refine k_iinc (pc' := 118) (v := nI (j + 1)) dX10_stretch_115 rfl (nI_inc _) (Nat.le_of_ble_eq_true rfl) rfl ?_
        refine k_goto (tgt := 88) dX10_stretch_118 rfl ?_
        have e3 : ∀ v, va_up (va_up (mAh a) 85 f) 85 (mIs i j v (va_up (mAh a) 85 f 85)) = va_up (mAh a) 85 (mIs i j v f) := fun v => by rw [up_up, up_s]
        rw [e3]
        exact ih2
      · refine k_iload_n (pc' := 89) dX10_stretch_88 rfl ?_
        refine k_aload_n (pc' := 90) dX10_stretch_89 rfl ?_
        refine p_get (pc' := 93) clX10 (Nat.le_of_ble_eq_true rfl) fl_RX10_9 dX10_stretch_90 (by first | assumption | decide | omega) (by first | rfl | assumption) rfl ?_
        refine k_icmp_ge (tgt := 121) (pc' := 96) dX10_stretch_93 rfl (fun _ => ?_) (fun zz_ => absurd (nI_le (by omega) (by omega)) zz_)
        refine k_iinc (pc' := 124) (v := nI (i + 1)) dX10_stretch_121 rfl (nI_inc _) (Nat.le_of_ble_eq_true rfl) rfl ?_
        refine k_goto (tgt := 76) dX10_stretch_124 rfl ?_
        exact ih _
    · intro y1
      rw [show upn N 0 (mSt2 N x) (a 85) = F from hF]
      refine k_iload_n (pc' := 77) dX10_stretch_76 rfl ?_
      refine k_aload_n (pc' := 78) dX10_stretch_77 rfl ?_
      refine p_get (pc' := 81) clX10 (Nat.le_of_ble_eq_true rfl) fl_RX10_9 dX10_stretch_78 (by first | assumption | decide | omega) (by first | rfl | assumption) rfl ?_
      refine k_icmp_ge (tgt := 127) (pc' := 84) dX10_stretch_81 rfl (fun _ => ?_) (fun zz_ => absurd (nI_le (by omega) (by omega)) zz_)
      refine k_aload_n (pc' := 128) dX10_stretch_127 rfl ?_
      refine p_vI (ν := mX10_done) (pc' := 131) dX10_stretch_128 ml_RX10_119 mo_X10_done mv_X10_done clX10 (Nat.le_of_ble_eq_true rfl) rfl rfl (Nat.le_of_ble_eq_true rfl) (by first | assumption | decide | omega) (by first | rfl | assumption) (by decide) (c_done hN hN6 hD) ?_
      refine k_pop (pc' := 132) dX10_stretch_131 rfl ?_
      refine k_aload_n (pc' := 133) dX10_stretch_132 rfl ?_
      refine p_vI (ν := mX10_all) (pc' := 136) dX10_stretch_133 ml_RX10_133 mo_X10_all mv_X10_all clX10 (Nat.le_of_ble_eq_true rfl) rfl rfl (Nat.le_of_ble_eq_true rfl) (by first | assumption | decide | omega) (by first | rfl | assumption) (by decide) (c_all hN hN6) ?_
      refine p_ireturn dX10_stretch_136 rfl ?_
      rw [← hQ]
      exact Or.inr (Or.inr ⟨c_9, hok, rfl, rfl⟩)
  have look : ∀ n i, i + n = N → (∀ i', i' < i → ∀ j, j < N → i' < j → x * a 85 (6 * i' + j) ≤ nI 999) → ∀ y, OkP G mX10_stretch 3 Qf 16 [some (.ref (adr G 84)), some (.int x), some (.int (nI i)), y] [] (putM G σ N D T z a tb) := by
    intro n
    induction n with
    | zero =>
      intro i hi hp y
      refine k_iload_n (pc' := 17) dX10_stretch_16 rfl ?_
      refine k_aload_n (pc' := 18) dX10_stretch_17 rfl ?_
      refine p_get (pc' := 21) clX10 (Nat.le_of_ble_eq_true rfl) fl_RX10_9 dX10_stretch_18 (by first | assumption | decide | omega) (by first | rfl | assumption) rfl ?_
      refine k_icmp_ge (tgt := 70) (pc' := 24) dX10_stretch_21 rfl (fun _ => ?_) (fun zz_ => absurd (nI_le (by omega) (by omega)) zz_)
      exact write (fun i' h => hp i' (by omega)) _ _
    | succ n ih =>
      intro i hi hp y
      refine k_iload_n (pc' := 17) dX10_stretch_16 rfl ?_
      refine k_aload_n (pc' := 18) dX10_stretch_17 rfl ?_
      refine p_get (pc' := 21) clX10 (Nat.le_of_ble_eq_true rfl) fl_RX10_9 dX10_stretch_18 (by first | assumption | decide | omega) (by first | rfl | assumption) rfl ?_
      refine k_icmp_ge (tgt := 70) (pc' := 24) dX10_stretch_21 rfl (fun zz_ => absurd zz_ (nI_ge (by omega) (by omega))) (fun _ => ?_)
      refine k_iload_n (pc' := 25) dX10_stretch_24 rfl ?_
      refine k_iconst (pc' := 26) (v := nI 1) dX10_stretch_25 rfl ?_
      refine k_iadd (pc' := 27) dX10_stretch_26 (by first | exact nI_add _ _ | rfl) ?_
      refine k_istore_n (pc' := 28) dX10_stretch_27 (Nat.le_of_ble_eq_true rfl) rfl ?_
      have inner : ∀ m j, j + m = N → i < j → (∀ j', j' < j → i < j' → x * a 85 (6 * i + j') ≤ nI 999) → OkP G mX10_stretch 3 Qf 28 [some (.ref (adr G 84)), some (.int x), some (.int (nI i)), some (.int (nI j))] [] (putM G σ N D T z a tb) := by
        intro m
        induction m with
        | zero =>
          intro j hj hij hq
          refine k_iload_n (pc' := 29) dX10_stretch_28 rfl ?_
          refine k_aload_n (pc' := 30) dX10_stretch_29 rfl ?_
          refine p_get (pc' := 33) clX10 (Nat.le_of_ble_eq_true rfl) fl_RX10_9 dX10_stretch_30 (by first | assumption | decide | omega) (by first | rfl | assumption) rfl ?_
          refine k_icmp_ge (tgt := 64) (pc' := 36) dX10_stretch_33 rfl (fun _ => ?_) (fun zz_ => absurd (nI_le (by omega) (by omega)) zz_)
          refine k_iinc (pc' := 67) (v := nI (i + 1)) dX10_stretch_64 rfl (nI_inc _) (Nat.le_of_ble_eq_true rfl) rfl ?_
          refine k_goto (tgt := 16) dX10_stretch_67 rfl ?_
          refine ih (i + 1) (by omega) (fun i' h => ?_) _
          rcases Nat.lt_or_ge i' i with h2 | h2
          · exact hp i' h2
          · have : i' = i := by omega
            subst this
            exact fun j' h3 => hq j' (by omega)
        | succ m ihm =>
          intro j hj hij hq
          by_cases hok : x * a 85 (6 * i + j) ≤ nI 999
          · refine k_iload_n (pc' := 29) dX10_stretch_28 rfl ?_
            refine k_aload_n (pc' := 30) dX10_stretch_29 rfl ?_
            refine p_get (pc' := 33) clX10 (Nat.le_of_ble_eq_true rfl) fl_RX10_9 dX10_stretch_30 (by first | assumption | decide | omega) (by first | rfl | assumption) rfl ?_
            refine k_icmp_ge (tgt := 64) (pc' := 36) dX10_stretch_33 rfl (fun zz_ => absurd zz_ (nI_ge (by omega) (by omega))) (fun _ => ?_)
            refine k_iload_n (pc' := 37) dX10_stretch_36 rfl ?_
            refine k_aload_n (pc' := 38) dX10_stretch_37 rfl ?_
            refine p_get (pc' := 41) clX10 (Nat.le_of_ble_eq_true rfl) fl_RX10_15 dX10_stretch_38 (by first | assumption | decide | omega) (by first | rfl | assumption) rfl ?_
            refine k_bipush (pc' := 43) (v := nI 6) dX10_stretch_41 rfl ?_
            refine k_iload_n (pc' := 44) dX10_stretch_43 rfl ?_
            refine k_imul (pc' := 45) dX10_stretch_44 (by first | exact pk_mul _ _ | rfl) ?_
            refine k_iload_n (pc' := 46) dX10_stretch_45 rfl ?_
            refine k_iadd (pc' := 47) dX10_stretch_46 (by first | exact nI_add _ _ | rfl) ?_
            refine p_ialdN (pc' := 48) dX10_stretch_47 (by first | assumption | decide | omega) (by first | rfl | assumption) (by first | decide | omega) (by first | omega | (simp only [mL85, mL86, mL87, mL88, mL89, mL90, mL91, mL92, mL93, mL94, mL95, mL96, mL97, mL98, mL100, mL101, mL102, mL103]; omega)) ?_
            refine k_imul (pc' := 49) (v := x * a 85 (6 * i + j)) dX10_stretch_48 rfl ?_
            refine k_sipush (pc' := 52) (v := nI 999) dX10_stretch_49 rfl ?_
            refine k_icmp_le (tgt := 58) (pc' := 55) dX10_stretch_52 rfl (fun _ => ?_) (fun zz_ => absurd hok zz_)
            refine k_iinc (pc' := 61) (v := nI (j + 1)) dX10_stretch_58 rfl (nI_inc _) (Nat.le_of_ble_eq_true rfl) rfl ?_
            refine k_goto (tgt := 28) dX10_stretch_61 rfl ?_
            refine ihm (j + 1) (by omega) (by omega) (fun j' h => ?_)
            rcases Nat.lt_or_ge j' j with h2 | h2
            · exact hq j' h2
            · have : j' = j := by omega
              subst this
              exact fun _ => hok
          · refine k_iload_n (pc' := 29) dX10_stretch_28 rfl ?_
            refine k_aload_n (pc' := 30) dX10_stretch_29 rfl ?_
            refine p_get (pc' := 33) clX10 (Nat.le_of_ble_eq_true rfl) fl_RX10_9 dX10_stretch_30 (by first | assumption | decide | omega) (by first | rfl | assumption) rfl ?_
            refine k_icmp_ge (tgt := 64) (pc' := 36) dX10_stretch_33 rfl (fun zz_ => absurd zz_ (nI_ge (by omega) (by omega))) (fun _ => ?_)
            refine k_iload_n (pc' := 37) dX10_stretch_36 rfl ?_
            refine k_aload_n (pc' := 38) dX10_stretch_37 rfl ?_
            refine p_get (pc' := 41) clX10 (Nat.le_of_ble_eq_true rfl) fl_RX10_15 dX10_stretch_38 (by first | assumption | decide | omega) (by first | rfl | assumption) rfl ?_
            refine k_bipush (pc' := 43) (v := nI 6) dX10_stretch_41 rfl ?_
            refine k_iload_n (pc' := 44) dX10_stretch_43 rfl ?_
            refine k_imul (pc' := 45) dX10_stretch_44 (by first | exact pk_mul _ _ | rfl) ?_
            refine k_iload_n (pc' := 46) dX10_stretch_45 rfl ?_
            refine k_iadd (pc' := 47) dX10_stretch_46 (by first | exact nI_add _ _ | rfl) ?_
            refine p_ialdN (pc' := 48) dX10_stretch_47 (by first | assumption | decide | omega) (by first | rfl | assumption) (by first | decide | omega) (by first | omega | (simp only [mL85, mL86, mL87, mL88, mL89, mL90, mL91, mL92, mL93, mL94, mL95, mL96, mL97, mL98, mL100, mL101, mL102, mL103]; omega)) ?_
            refine k_imul (pc' := 49) (v := x * a 85 (6 * i + j)) dX10_stretch_48 rfl ?_
            refine k_sipush (pc' := 52) (v := nI 999) dX10_stretch_49 rfl ?_
            refine k_icmp_le (tgt := 58) (pc' := 55) dX10_stretch_52 rfl (fun zz_ => absurd zz_ hok) (fun _ => ?_)
            refine k_bipush (pc' := 57) (v := -5) dX10_stretch_55 rfl ?_
            refine p_ireturn dX10_stretch_57 rfl ?_
            rw [← hQ]
            exact Or.inr (Or.inl ⟨c_9, fun q => hok (q i (by omega) j (by omega) hij), rfl, rfl⟩)
      exact inner (N - (i + 1)) (i + 1) (by omega) (by omega) (fun j' h1 h2 => by omega)
  exact look N 0 (by omega) (fun i' h => by omega) none
def mBk (a : Nat → Nat → Int32) (P d : Nat) : Nat → Nat → Int32 := va_up (va_up (va_up a 86 (clF P 6 (a 86))) 87 (clF P 6 (a 87))) 85 (upn 36 0 (fun i f => upd f i (a 89 (36 * d + i))) (a 85))
theorem m_back0 (hD : D = 0) : ConP G mX10_back 2 [.ref (adr G 84)] (putM G σ N D T z a tb) (rI (-5) (putM G σ N D T z a tb)) := by
  subst hD
  refine ConP.of rfl (Nat.le_of_ble_eq_true rfl) ?_
  refine k_aload_n (pc' := 1) dX10_back_0 rfl ?_
  refine p_get (pc' := 4) clX10 (Nat.le_of_ble_eq_true rfl) fl_RX10_100 dX10_back_1 (by first | assumption | decide | omega) (by first | rfl | assumption) rfl ?_
  refine k_if_ne (tgt := 10) (pc' := 7) dX10_back_4 rfl (fun zz_ => absurd rfl zz_) (fun _ => ?_)
  refine k_bipush (pc' := 9) (v := -5) dX10_back_7 rfl ?_
  refine p_ireturn dX10_back_9 rfl ?_
  exact ⟨rfl, rfl⟩
theorem m_back {P : Nat} (hD : D ≤ 8) (hD0 : 0 < D) (hP : a 88 (D - 1) = nI P) (hP6 : P ≤ 6) : ConP G mX10_back 2 [.ref (adr G 84)] (putM G σ N D T z a tb) (rI (nI (D - 1)) (putM G σ P (D - 1) T z (mBk a P (D - 1)) tb)) := by
  refine ConP.of rfl (Nat.le_of_ble_eq_true rfl) ?_
  refine k_aload_n (pc' := 1) dX10_back_0 rfl ?_
  refine p_get (pc' := 4) clX10 (Nat.le_of_ble_eq_true rfl) fl_RX10_100 dX10_back_1 (by first | assumption | decide | omega) (by first | rfl | assumption) rfl ?_
  refine k_if_ne (tgt := 10) (pc' := 7) dX10_back_4 rfl (fun _ => ?_) (fun zz_ => absurd zz_ (nI_ne0 (by omega) (by omega)))
  refine k_aload_n (pc' := 11) dX10_back_10 rfl ?_
  refine k_dup (pc' := 12) dX10_back_11 rfl ?_
  refine p_get (pc' := 15) clX10 (Nat.le_of_ble_eq_true rfl) fl_RX10_100 dX10_back_12 (by first | assumption | decide | omega) (by first | rfl | assumption) rfl ?_
  refine k_iconst (pc' := 16) (v := nI 1) dX10_back_15 rfl ?_
  refine k_isub (pc' := 17) dX10_back_16 (by first | exact pk_sub (by omega) | rfl) ?_
  refine p_putI (pc' := 20) clX10 (Nat.le_of_ble_eq_true rfl) fl_RX10_100 dX10_back_17 rfl (Or.inl rfl) (by first | assumption | decide | omega) (by first | rfl | assumption) (Nat.le_of_ble_eq_true rfl) (by exact pMz4) ?_
  refine k_aload_n (pc' := 21) dX10_back_20 rfl ?_
  refine k_aload_n (pc' := 22) dX10_back_21 rfl ?_
  refine p_get (pc' := 25) clX10 (Nat.le_of_ble_eq_true rfl) fl_RX10_25 dX10_back_22 (by first | assumption | decide | omega) (by first | rfl | assumption) rfl ?_
  refine k_aload_n (pc' := 26) dX10_back_25 rfl ?_
  refine p_get (pc' := 29) clX10 (Nat.le_of_ble_eq_true rfl) fl_RX10_100 dX10_back_26 (by first | assumption | decide | omega) (by first | rfl | assumption) rfl ?_
  refine p_ialdN (pc' := 30) dX10_back_29 (by decide) rfl (by decide) (by simp only [mL88]; omega) ?_
  rw [hP]
  refine p_vV (ν := mX10_becomes) (pc' := 33) dX10_back_30 ml_RX10_140 mo_X10_becomes mv_X10_becomes clX10 (Nat.le_of_ble_eq_true rfl) rfl rfl (Nat.le_of_ble_eq_true rfl) (by first | assumption | decide | omega) (by first | rfl | assumption) (by decide) (c_becomes hP6) ?_
  refine k_iconst (pc' := 34) (v := nI 0) dX10_back_33 rfl ?_
  refine k_istore_n (pc' := 35) dX10_back_34 (Nat.le_of_ble_eq_true rfl) rfl ?_
  have key := loopU (fun i f => OkP G mX10_back 2 (rI (nI (D - 1)) (putM G σ P (D - 1) T z (mBk a P (D - 1)) tb)) 35 [some (.ref (adr G 84)), some (.int (nI i))] [] (putM G σ P (D - 1) T z (va_up (va_up (va_up a 86 (clF P 6 (a 86))) 87 (clF P 6 (a 87))) 85 f) tb)) (fun i f => upd f i (a 89 (36 * (D - 1) + i))) 36 0 36 (a 85) (by omega) ?_ ?_
  · have e : va_up (va_up (va_up a 86 (clF P 6 (a 86))) 87 (clF P 6 (a 87))) 85 (a 85) = va_up (va_up a 86 (clF P 6 (a 86))) 87 (clF P 6 (a 87)) := up_id (by rw [up_n (by decide), up_n (by decide)])
    rw [e] at key
    exact key
  · intro i f _ hi ih
    refine k_iload_n (pc' := 36) dX10_back_35 rfl ?_
    refine k_bipush (pc' := 38) (v := nI 36) dX10_back_36 rfl ?_
    refine k_icmp_ge (tgt := 67) (pc' := 41) dX10_back_38 rfl (fun zz_ => absurd zz_ (nI_ge (by omega) (by omega))) (fun _ => ?_)
    refine k_aload_n (pc' := 42) dX10_back_41 rfl ?_
    refine p_get (pc' := 45) clX10 (Nat.le_of_ble_eq_true rfl) fl_RX10_15 dX10_back_42 (by first | assumption | decide | omega) (by first | rfl | assumption) rfl ?_
    refine k_iload_n (pc' := 46) dX10_back_45 rfl ?_
    refine k_aload_n (pc' := 47) dX10_back_46 rfl ?_
    refine p_get (pc' := 50) clX10 (Nat.le_of_ble_eq_true rfl) fl_RX10_28 dX10_back_47 (by first | assumption | decide | omega) (by first | rfl | assumption) rfl ?_
    refine k_bipush (pc' := 52) (v := nI 36) dX10_back_50 rfl ?_
    refine k_aload_n (pc' := 53) dX10_back_52 rfl ?_
    refine p_get (pc' := 56) clX10 (Nat.le_of_ble_eq_true rfl) fl_RX10_100 dX10_back_53 (by first | assumption | decide | omega) (by first | rfl | assumption) rfl ?_
    refine k_imul (pc' := 57) dX10_back_56 (by first | exact pk_mul _ _ | rfl) ?_
    refine k_iload_n (pc' := 58) dX10_back_57 rfl ?_
    refine k_iadd (pc' := 59) dX10_back_58 (by first | exact nI_add _ _ | rfl) ?_
    refine p_ialdN (pc' := 60) dX10_back_59 (by first | assumption | decide | omega) (by first | rfl | assumption) (by first | decide | omega) (by first | omega | (simp only [mL85, mL86, mL87, mL88, mL89, mL90, mL91, mL92, mL93, mL94, mL95, mL96, mL97, mL98, mL100, mL101, mL102, mL103]; omega)) ?_
    refine p_iastN (pc' := 61) (σ1 := putM G σ P (D - 1) T z (va_up (va_up (va_up a 86 (clF P 6 (a 86))) 87 (clF P 6 (a 87))) 85 (upd f i (a 89 (36 * (D - 1) + i)))) tb) dX10_back_60 (by first | assumption | decide | omega) (by first | rfl | assumption) (by first | decide | omega) (by first | omega | (simp only [mL85, mL86, mL87, mL88, mL89, mL90, mL91, mL92, mL93, mL94, mL95, mL96, mL97, mL98, mL100, mL101, mL102, mL103]; omega)) (by exact (by rw [pMa (by decide), up_up]; rfl)) ?_
    refine k_iinc (pc' := 64) (v := nI (i + 1)) dX10_back_61 rfl (nI_inc _) (Nat.le_of_ble_eq_true rfl) rfl ?_
    refine k_goto (tgt := 35) dX10_back_64 rfl ?_
    exact ih
  · refine k_iload_n (pc' := 36) dX10_back_35 rfl ?_
    refine k_bipush (pc' := 38) (v := nI 36) dX10_back_36 rfl ?_
    refine k_icmp_ge (tgt := 67) (pc' := 41) dX10_back_38 rfl (fun _ => ?_) (fun zz_ => absurd (nI_le (by omega) (by omega)) zz_)
    refine k_aload_n (pc' := 68) dX10_back_67 rfl ?_
    refine p_get (pc' := 71) clX10 (Nat.le_of_ble_eq_true rfl) fl_RX10_100 dX10_back_68 (by first | assumption | decide | omega) (by first | rfl | assumption) rfl ?_
    refine p_ireturn dX10_back_71 rfl ?_
    exact ⟨rfl, rfl⟩
end MODEL4
