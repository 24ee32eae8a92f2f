/-! constructors, by wip/whole/mkinit.py -/
def bk0 (G : GT) (b : Nat) (q1 : Nat) (q2 : Nat) (q3 : Nat) (q4 : Nat) (q5 : Nat) (q6 : Nat) (q7 : Nat) (q8 : Nat) (q9 : Nat) (q10 : Nat) (q11 : Nat) (q12 : Nat) (q13 : Nat) (q14 : Nat) (q15 : Nat) (q16 : Nat) (q17 : Nat) : va_W := (b, .inr (0, [.ref q1, .int (nI 0), .int (nI 0)])) :: (([] : va_W) ++ ((q1, .inl (G.2.2.1 3, 8, .inr (.inr (.inr (.inr (va_up (va_up (va_up (va_up (va_up (va_up (va_up (va_up (fun _ => none) (nI 0).toNatClampNeg (some q2)) (nI 1).toNatClampNeg (some q4)) (nI 2).toNatClampNeg (some q6)) (nI 3).toNatClampNeg (some q8)) (nI 4).toNatClampNeg (some q10)) (nI 5).toNatClampNeg (some q12)) (nI 6).toNatClampNeg (some q14)) (nI 7).toNatClampNeg (some q16))))))) :: ((((((((([] : va_W) ++ bk6 G q2 q3) ++ bk6 G q4 q5) ++ bk6 G q6 q7) ++ bk6 G q8 q9) ++ bk6 G q10 q11) ++ bk6 G q12 q13) ++ bk6 G q14 q15) ++ bk6 G q16 q17)))
theorem i_X0 {G : GT} {X : va_W} {b : Nat} : Con G mX0_init 2 17 144 [.ref b] (X ++ [(b, .inr (0, [.null, .int 0, .int 0]))]) (fun v ws' => v = none ∧ ∃ (q1 : Nat) (q2 : Nat) (q3 : Nat) (q4 : Nat) (q5 : Nat) (q6 : Nat) (q7 : Nat) (q8 : Nat) (q9 : Nat) (q10 : Nat) (q11 : Nat) (q12 : Nat) (q13 : Nat) (q14 : Nat) (q15 : Nat) (q16 : Nat) (q17 : Nat), ws' = X ++ bk0 G b q1 q2 q3 q4 q5 q6 q7 q8 q9 q10 q11 q12 q13 q14 q15 q16 q17) := by
  refine Con.of rfl (Nat.le_of_ble_eq_true rfl) ?_
  refine k_aload_n (pc' := 1) dX0_init_0 rfl ?_
  refine k_obj (pc' := 4) dX0_init_1 tw_159 tw_117 tw_118 (by decide) (Nat.le_of_ble_eq_true rfl) ?_
  refine k_aload_n (pc' := 5) dX0_init_4 rfl ?_
  refine k_bipush (pc' := 7) (v := nI 8) dX0_init_5 rfl ?_
  refine y_newq (pc' := 10) (t0 := 3) (N' := 8) (C := RX6) dX0_init_7 tw_160 tw_161 rfl (by decide) rfl (Nat.le_of_ble_eq_true rfl) ⟨by decide, by decide⟩ (fun q1 => ?_)
  show Ok G _ _ _ _ _ _ _ _ (X ++ ((b, .inr (0, [.null, .int 0, .int 0])) :: (([] : va_W) ++ ((q1, .inl (G.2.2.1 3, 8, .inr (.inr (.inr (.inr (fun _ => none)))))) :: ([] : va_W))))) _ _
  refine y_putF (pc' := 13) (k := 0) (q := 0) clX0 (Nat.le_of_ble_eq_true rfl) tw_163 dX0_init_10 rfl rfl rfl rfl rfl rfl (Nat.le_of_ble_eq_true rfl) ?_
  show Ok G _ _ _ _ _ _ _ _ (X ++ ((b, .inr (0, [.ref q1, .int 0, .int 0])) :: (([] : va_W) ++ ((q1, .inl (G.2.2.1 3, 8, .inr (.inr (.inr (.inr (fun _ => none)))))) :: ([] : va_W))))) _ _
  refine k_aload_n (pc' := 14) dX0_init_13 rfl ?_
  refine k_iconst (pc' := 15) (v := nI 0) dX0_init_14 rfl ?_
  refine y_put (pc' := 18) (q := 0) clX0 (Nat.le_of_ble_eq_true rfl) fl_RX0_17 dX0_init_15 rfl rfl rfl rfl (Nat.le_of_ble_eq_true rfl) ?_
  show Ok G _ _ _ _ _ _ _ _ (X ++ ((b, .inr (0, [.ref q1, .int (nI 0), .int 0])) :: (([] : va_W) ++ ((q1, .inl (G.2.2.1 3, 8, .inr (.inr (.inr (.inr (fun _ => none)))))) :: ([] : va_W))))) _ _
  refine k_aload_n (pc' := 19) dX0_init_18 rfl ?_
  refine k_iconst (pc' := 20) (v := nI 0) dX0_init_19 rfl ?_
  refine y_put (pc' := 23) (q := 0) clX0 (Nat.le_of_ble_eq_true rfl) fl_RX0_21 dX0_init_20 rfl rfl rfl rfl (Nat.le_of_ble_eq_true rfl) ?_
  show Ok G _ _ _ _ _ _ _ _ (X ++ ((b, .inr (0, [.ref q1, .int (nI 0), .int (nI 0)])) :: (([] : va_W) ++ ((q1, .inl (G.2.2.1 3, 8, .inr (.inr (.inr (.inr (fun _ => none)))))) :: ([] : va_W))))) _ _
  refine k_iconst (pc' := 24) (v := nI 0) dX0_init_23 rfl ?_
  refine k_istore_n (pc' := 25) dX0_init_24 (by decide) rfl ?_
  refine k_iload_n (pc' := 26) dX0_init_25 rfl ?_
  refine k_bipush (pc' := 28) (v := nI 8) dX0_init_26 rfl ?_
  refine k_icmp_ge (pc' := 31) (tgt := 50) dX0_init_28 rfl (fun h => absurd h (by decide)) (fun _ => ?_)
  refine k_aload_n (pc' := 32) dX0_init_31 rfl ?_
  refine y_get (pc' := 35) (q := 0) clX0 (Nat.le_of_ble_eq_true rfl) fl_RX0_11 dX0_init_32 rfl rfl ?_
  refine k_iload_n (pc' := 36) dX0_init_35 rfl ?_
  refine k_new (pc' := 39) (ty := tyX6) (fs := [.int 0, .null]) clX6 dX0_init_36 tw_160 tw_120 tw_99 (fun j hj => by have h : j = 0 ∨ j = 1 := (by omega); rcases h with rfl | rfl <;> rfl) ⟨by decide, by decide⟩ (fun q2 => ?_)
  refine k_dup (pc' := 40) dX0_init_39 rfl ?_
  refine k_callI (ν := mX6_init) (pc' := 43) dX0_init_40 ml_RX0_24 mo_X6_init mc_X6_init rfl (i_X6 (G := G) (X := X ++ ((b, .inr (0, [.ref q1, .int (nI 0), .int (nI 0)])) :: (([] : va_W) ++ ((q1, .inl (G.2.2.1 3, 8, .inr (.inr (.inr (.inr (fun _ => none)))))) :: ([] : va_W))))) (b := q2)) (by decide) rfl rfl (Nat.le_of_ble_eq_true rfl) (Nat.le_of_ble_eq_true rfl) ⟨by decide, by decide⟩ (fun v ws' h => ?_)
  obtain ⟨rfl, q3, rfl⟩ := h
  rw [List.append_assoc]
  rw [List.cons_append, List.append_assoc, List.cons_append]
  show Ok G _ _ _ _ _ _ _ _ (X ++ ((b, .inr (0, [.ref q1, .int (nI 0), .int (nI 0)])) :: (([] : va_W) ++ ((q1, .inl (G.2.2.1 3, 8, .inr (.inr (.inr (.inr (fun _ => none)))))) :: (([] : va_W) ++ ((q2, .inr (6, [.int (nI 4), .ref q3])) :: [(q3, .inl (G.2.2.1 0, 15, .inl (fun _ => 0)))])))))) _ _
  refine z_astq (pc' := 44) (t0 := 3) dX0_init_43 rfl rfl (fun q => q.elim (by decide) (by decide)) ?_
  show Ok G _ _ _ _ _ _ _ _ (X ++ ((b, .inr (0, [.ref q1, .int (nI 0), .int (nI 0)])) :: (([] : va_W) ++ ((q1, .inl (G.2.2.1 3, 8, .inr (.inr (.inr (.inr (va_up (fun _ => none) (nI 0).toNatClampNeg (some q2))))))) :: (([] : va_W) ++ bk6 G q2 q3))))) _ _
  obtain ⟨R1, eR1⟩ : ∃ R : va_W, R = ([] : va_W) ++ bk6 G q2 q3 := ⟨_, rfl⟩
  rw [← eR1]
  refine k_iinc (pc' := 47) (v := nI 1) dX0_init_44 rfl (nI_inc 0) (by decide) rfl ?_
  refine k_goto (tgt := 25) dX0_init_47 rfl ?_
  refine k_iload_n (pc' := 26) dX0_init_25 rfl ?_
  refine k_bipush (pc' := 28) (v := nI 8) dX0_init_26 rfl ?_
  refine k_icmp_ge (pc' := 31) (tgt := 50) dX0_init_28 rfl (fun h => absurd h (by decide)) (fun _ => ?_)
  refine k_aload_n (pc' := 32) dX0_init_31 rfl ?_
  refine y_get (pc' := 35) (q := 0) clX0 (Nat.le_of_ble_eq_true rfl) fl_RX0_11 dX0_init_32 rfl rfl ?_
  refine k_iload_n (pc' := 36) dX0_init_35 rfl ?_
  refine k_new (pc' := 39) (ty := tyX6) (fs := [.int 0, .null]) clX6 dX0_init_36 tw_160 tw_120 tw_99 (fun j hj => by have h : j = 0 ∨ j = 1 := (by omega); rcases h with rfl | rfl <;> rfl) ⟨by decide, by decide⟩ (fun q4 => ?_)
  refine k_dup (pc' := 40) dX0_init_39 rfl ?_
  refine k_callI (ν := mX6_init) (pc' := 43) dX0_init_40 ml_RX0_24 mo_X6_init mc_X6_init rfl (i_X6 (G := G) (X := X ++ ((b, .inr (0, [.ref q1, .int (nI 0), .int (nI 0)])) :: (([] : va_W) ++ ((q1, .inl (G.2.2.1 3, 8, .inr (.inr (.inr (.inr (va_up (fun _ => none) (nI 0).toNatClampNeg (some q2))))))) :: R1)))) (b := q4)) (by decide) rfl rfl (Nat.le_of_ble_eq_true rfl) (Nat.le_of_ble_eq_true rfl) ⟨by decide, by decide⟩ (fun v ws' h => ?_)
  obtain ⟨rfl, q5, rfl⟩ := h
  rw [List.append_assoc]
  rw [List.cons_append, List.append_assoc, List.cons_append]
  show Ok G _ _ _ _ _ _ _ _ (X ++ ((b, .inr (0, [.ref q1, .int (nI 0), .int (nI 0)])) :: (([] : va_W) ++ ((q1, .inl (G.2.2.1 3, 8, .inr (.inr (.inr (.inr (va_up (fun _ => none) (nI 0).toNatClampNeg (some q2))))))) :: (R1 ++ ((q4, .inr (6, [.int (nI 4), .ref q5])) :: [(q5, .inl (G.2.2.1 0, 15, .inl (fun _ => 0)))])))))) _ _
  refine z_astq (pc' := 44) (t0 := 3) dX0_init_43 rfl rfl (fun q => q.elim (by decide) (by decide)) ?_
  show Ok G _ _ _ _ _ _ _ _ (X ++ ((b, .inr (0, [.ref q1, .int (nI 0), .int (nI 0)])) :: (([] : va_W) ++ ((q1, .inl (G.2.2.1 3, 8, .inr (.inr (.inr (.inr (va_up (va_up (fun _ => none) (nI 0).toNatClampNeg (some q2)) (nI 1).toNatClampNeg (some q4))))))) :: (R1 ++ bk6 G q4 q5))))) _ _
  obtain ⟨R2, eR2⟩ : ∃ R : va_W, R = R1 ++ bk6 G q4 q5 := ⟨_, rfl⟩
  rw [← eR2]
  refine k_iinc (pc' := 47) (v := nI 2) dX0_init_44 rfl (nI_inc 1) (by decide) rfl ?_
  refine k_goto (tgt := 25) dX0_init_47 rfl ?_
  refine k_iload_n (pc' := 26) dX0_init_25 rfl ?_
  refine k_bipush (pc' := 28) (v := nI 8) dX0_init_26 rfl ?_
  refine k_icmp_ge (pc' := 31) (tgt := 50) dX0_init_28 rfl (fun h => absurd h (by decide)) (fun _ => ?_)
  refine k_aload_n (pc' := 32) dX0_init_31 rfl ?_
  refine y_get (pc' := 35) (q := 0) clX0 (Nat.le_of_ble_eq_true rfl) fl_RX0_11 dX0_init_32 rfl rfl ?_
  refine k_iload_n (pc' := 36) dX0_init_35 rfl ?_
  refine k_new (pc' := 39) (ty := tyX6) (fs := [.int 0, .null]) clX6 dX0_init_36 tw_160 tw_120 tw_99 (fun j hj => by have h : j = 0 ∨ j = 1 := (by omega); rcases h with rfl | rfl <;> rfl) ⟨by decide, by decide⟩ (fun q6 => ?_)
  refine k_dup (pc' := 40) dX0_init_39 rfl ?_
  refine k_callI (ν := mX6_init) (pc' := 43) dX0_init_40 ml_RX0_24 mo_X6_init mc_X6_init rfl (i_X6 (G := G) (X := X ++ ((b, .inr (0, [.ref q1, .int (nI 0), .int (nI 0)])) :: (([] : va_W) ++ ((q1, .inl (G.2.2.1 3, 8, .inr (.inr (.inr (.inr (va_up (va_up (fun _ => none) (nI 0).toNatClampNeg (some q2)) (nI 1).toNatClampNeg (some q4))))))) :: R2)))) (b := q6)) (by decide) rfl rfl (Nat.le_of_ble_eq_true rfl) (Nat.le_of_ble_eq_true rfl) ⟨by decide, by decide⟩ (fun v ws' h => ?_)
  obtain ⟨rfl, q7, rfl⟩ := h
  rw [List.append_assoc]
  rw [List.cons_append, List.append_assoc, List.cons_append]
  show Ok G _ _ _ _ _ _ _ _ (X ++ ((b, .inr (0, [.ref q1, .int (nI 0), .int (nI 0)])) :: (([] : va_W) ++ ((q1, .inl (G.2.2.1 3, 8, .inr (.inr (.inr (.inr (va_up (va_up (fun _ => none) (nI 0).toNatClampNeg (some q2)) (nI 1).toNatClampNeg (some q4))))))) :: (R2 ++ ((q6, .inr (6, [.int (nI 4), .ref q7])) :: [(q7, .inl (G.2.2.1 0, 15, .inl (fun _ => 0)))])))))) _ _
  refine z_astq (pc' := 44) (t0 := 3) dX0_init_43 rfl rfl (fun q => q.elim (by decide) (by decide)) ?_
  show Ok G _ _ _ _ _ _ _ _ (X ++ ((b, .inr (0, [.ref q1, .int (nI 0), .int (nI 0)])) :: (([] : va_W) ++ ((q1, .inl (G.2.2.1 3, 8, .inr (.inr (.inr (.inr (va_up (va_up (va_up (fun _ => none) (nI 0).toNatClampNeg (some q2)) (nI 1).toNatClampNeg (some q4)) (nI 2).toNatClampNeg (some q6))))))) :: (R2 ++ bk6 G q6 q7))))) _ _
  obtain ⟨R3, eR3⟩ : ∃ R : va_W, R = R2 ++ bk6 G q6 q7 := ⟨_, rfl⟩
  rw [← eR3]
  refine k_iinc (pc' := 47) (v := nI 3) dX0_init_44 rfl (nI_inc 2) (by decide) rfl ?_
  refine k_goto (tgt := 25) dX0_init_47 rfl ?_
  refine k_iload_n (pc' := 26) dX0_init_25 rfl ?_
  refine k_bipush (pc' := 28) (v := nI 8) dX0_init_26 rfl ?_
  refine k_icmp_ge (pc' := 31) (tgt := 50) dX0_init_28 rfl (fun h => absurd h (by decide)) (fun _ => ?_)
  refine k_aload_n (pc' := 32) dX0_init_31 rfl ?_
  refine y_get (pc' := 35) (q := 0) clX0 (Nat.le_of_ble_eq_true rfl) fl_RX0_11 dX0_init_32 rfl rfl ?_
  refine k_iload_n (pc' := 36) dX0_init_35 rfl ?_
  refine k_new (pc' := 39) (ty := tyX6) (fs := [.int 0, .null]) clX6 dX0_init_36 tw_160 tw_120 tw_99 (fun j hj => by have h : j = 0 ∨ j = 1 := (by omega); rcases h with rfl | rfl <;> rfl) ⟨by decide, by decide⟩ (fun q8 => ?_)
  refine k_dup (pc' := 40) dX0_init_39 rfl ?_
  refine k_callI (ν := mX6_init) (pc' := 43) dX0_init_40 ml_RX0_24 mo_X6_init mc_X6_init rfl (i_X6 (G := G) (X := X ++ ((b, .inr (0, [.ref q1, .int (nI 0), .int (nI 0)])) :: (([] : va_W) ++ ((q1, .inl (G.2.2.1 3, 8, .inr (.inr (.inr (.inr (va_up (va_up (va_up (fun _ => none) (nI 0).toNatClampNeg (some q2)) (nI 1).toNatClampNeg (some q4)) (nI 2).toNatClampNeg (some q6))))))) :: R3)))) (b := q8)) (by decide) rfl rfl (Nat.le_of_ble_eq_true rfl) (Nat.le_of_ble_eq_true rfl) ⟨by decide, by decide⟩ (fun v ws' h => ?_)
  obtain ⟨rfl, q9, rfl⟩ := h
  rw [List.append_assoc]
  rw [List.cons_append, List.append_assoc, List.cons_append]
  show Ok G _ _ _ _ _ _ _ _ (X ++ ((b, .inr (0, [.ref q1, .int (nI 0), .int (nI 0)])) :: (([] : va_W) ++ ((q1, .inl (G.2.2.1 3, 8, .inr (.inr (.inr (.inr (va_up (va_up (va_up (fun _ => none) (nI 0).toNatClampNeg (some q2)) (nI 1).toNatClampNeg (some q4)) (nI 2).toNatClampNeg (some q6))))))) :: (R3 ++ ((q8, .inr (6, [.int (nI 4), .ref q9])) :: [(q9, .inl (G.2.2.1 0, 15, .inl (fun _ => 0)))])))))) _ _
  refine z_astq (pc' := 44) (t0 := 3) dX0_init_43 rfl rfl (fun q => q.elim (by decide) (by decide)) ?_
  show Ok G _ _ _ _ _ _ _ _ (X ++ ((b, .inr (0, [.ref q1, .int (nI 0), .int (nI 0)])) :: (([] : va_W) ++ ((q1, .inl (G.2.2.1 3, 8, .inr (.inr (.inr (.inr (va_up (va_up (va_up (va_up (fun _ => none) (nI 0).toNatClampNeg (some q2)) (nI 1).toNatClampNeg (some q4)) (nI 2).toNatClampNeg (some q6)) (nI 3).toNatClampNeg (some q8))))))) :: (R3 ++ bk6 G q8 q9))))) _ _
  obtain ⟨R4, eR4⟩ : ∃ R : va_W, R = R3 ++ bk6 G q8 q9 := ⟨_, rfl⟩
  rw [← eR4]
  refine k_iinc (pc' := 47) (v := nI 4) dX0_init_44 rfl (nI_inc 3) (by decide) rfl ?_
  refine k_goto (tgt := 25) dX0_init_47 rfl ?_
  refine k_iload_n (pc' := 26) dX0_init_25 rfl ?_
  refine k_bipush (pc' := 28) (v := nI 8) dX0_init_26 rfl ?_
  refine k_icmp_ge (pc' := 31) (tgt := 50) dX0_init_28 rfl (fun h => absurd h (by decide)) (fun _ => ?_)
  refine k_aload_n (pc' := 32) dX0_init_31 rfl ?_
  refine y_get (pc' := 35) (q := 0) clX0 (Nat.le_of_ble_eq_true rfl) fl_RX0_11 dX0_init_32 rfl rfl ?_
  refine k_iload_n (pc' := 36) dX0_init_35 rfl ?_
  refine k_new (pc' := 39) (ty := tyX6) (fs := [.int 0, .null]) clX6 dX0_init_36 tw_160 tw_120 tw_99 (fun j hj => by have h : j = 0 ∨ j = 1 := (by omega); rcases h with rfl | rfl <;> rfl) ⟨by decide, by decide⟩ (fun q10 => ?_)
  refine k_dup (pc' := 40) dX0_init_39 rfl ?_
  refine k_callI (ν := mX6_init) (pc' := 43) dX0_init_40 ml_RX0_24 mo_X6_init mc_X6_init rfl (i_X6 (G := G) (X := X ++ ((b, .inr (0, [.ref q1, .int (nI 0), .int (nI 0)])) :: (([] : va_W) ++ ((q1, .inl (G.2.2.1 3, 8, .inr (.inr (.inr (.inr (va_up (va_up (va_up (va_up (fun _ => none) (nI 0).toNatClampNeg (some q2)) (nI 1).toNatClampNeg (some q4)) (nI 2).toNatClampNeg (some q6)) (nI 3).toNatClampNeg (some q8))))))) :: R4)))) (b := q10)) (by decide) rfl rfl (Nat.le_of_ble_eq_true rfl) (Nat.le_of_ble_eq_true rfl) ⟨by decide, by decide⟩ (fun v ws' h => ?_)
  obtain ⟨rfl, q11, rfl⟩ := h
  rw [List.append_assoc]
  rw [List.cons_append, List.append_assoc, List.cons_append]
  show Ok G _ _ _ _ _ _ _ _ (X ++ ((b, .inr (0, [.ref q1, .int (nI 0), .int (nI 0)])) :: (([] : va_W) ++ ((q1, .inl (G.2.2.1 3, 8, .inr (.inr (.inr (.inr (va_up (va_up (va_up (va_up (fun _ => none) (nI 0).toNatClampNeg (some q2)) (nI 1).toNatClampNeg (some q4)) (nI 2).toNatClampNeg (some q6)) (nI 3).toNatClampNeg (some q8))))))) :: (R4 ++ ((q10, .inr (6, [.int (nI 4), .ref q11])) :: [(q11, .inl (G.2.2.1 0, 15, .inl (fun _ => 0)))])))))) _ _
  refine z_astq (pc' := 44) (t0 := 3) dX0_init_43 rfl rfl (fun q => q.elim (by decide) (by decide)) ?_
  show Ok G _ _ _ _ _ _ _ _ (X ++ ((b, .inr (0, [.ref q1, .int (nI 0), .int (nI 0)])) :: (([] : va_W) ++ ((q1, .inl (G.2.2.1 3, 8, .inr (.inr (.inr (.inr (va_up (va_up (va_up (va_up (va_up (fun _ => none) (nI 0).toNatClampNeg (some q2)) (nI 1).toNatClampNeg (some q4)) (nI 2).toNatClampNeg (some q6)) (nI 3).toNatClampNeg (some q8)) (nI 4).toNatClampNeg (some q10))))))) :: (R4 ++ bk6 G q10 q11))))) _ _
  obtain ⟨R5, eR5⟩ : ∃ R : va_W, R = R4 ++ bk6 G q10 q11 := ⟨_, rfl⟩
  rw [← eR5]
  refine k_iinc (pc' := 47) (v := nI 5) dX0_init_44 rfl (nI_inc 4) (by decide) rfl ?_
  refine k_goto (tgt := 25) dX0_init_47 rfl ?_
  refine k_iload_n (pc' := 26) dX0_init_25 rfl ?_
  refine k_bipush (pc' := 28) (v := nI 8) dX0_init_26 rfl ?_
  refine k_icmp_ge (pc' := 31) (tgt := 50) dX0_init_28 rfl (fun h => absurd h (by decide)) (fun _ => ?_)
  refine k_aload_n (pc' := 32) dX0_init_31 rfl ?_
  refine y_get (pc' := 35) (q := 0) clX0 (Nat.le_of_ble_eq_true rfl) fl_RX0_11 dX0_init_32 rfl rfl ?_
  refine k_iload_n (pc' := 36) dX0_init_35 rfl ?_
  refine k_new (pc' := 39) (ty := tyX6) (fs := [.int 0, .null]) clX6 dX0_init_36 tw_160 tw_120 tw_99 (fun j hj => by have h : j = 0 ∨ j = 1 := (by omega); rcases h with rfl | rfl <;> rfl) ⟨by decide, by decide⟩ (fun q12 => ?_)
  refine k_dup (pc' := 40) dX0_init_39 rfl ?_
  refine k_callI (ν := mX6_init) (pc' := 43) dX0_init_40 ml_RX0_24 mo_X6_init mc_X6_init rfl (i_X6 (G := G) (X := X ++ ((b, .inr (0, [.ref q1, .int (nI 0), .int (nI 0)])) :: (([] : va_W) ++ ((q1, .inl (G.2.2.1 3, 8, .inr (.inr (.inr (.inr (va_up (va_up (va_up (va_up (va_up (fun _ => none) (nI 0).toNatClampNeg (some q2)) (nI 1).toNatClampNeg (some q4)) (nI 2).toNatClampNeg (some q6)) (nI 3).toNatClampNeg (some q8)) (nI 4).toNatClampNeg (some q10))))))) :: R5)))) (b := q12)) (by decide) rfl rfl (Nat.le_of_ble_eq_true rfl) (Nat.le_of_ble_eq_true rfl) ⟨by decide, by decide⟩ (fun v ws' h => ?_)
  obtain ⟨rfl, q13, rfl⟩ := h
  rw [List.append_assoc]
  rw [List.cons_append, List.append_assoc, List.cons_append]
  show Ok G _ _ _ _ _ _ _ _ (X ++ ((b, .inr (0, [.ref q1, .int (nI 0), .int (nI 0)])) :: (([] : va_W) ++ ((q1, .inl (G.2.2.1 3, 8, .inr (.inr (.inr (.inr (va_up (va_up (va_up (va_up (va_up (fun _ => none) (nI 0).toNatClampNeg (some q2)) (nI 1).toNatClampNeg (some q4)) (nI 2).toNatClampNeg (some q6)) (nI 3).toNatClampNeg (some q8)) (nI 4).toNatClampNeg (some q10))))))) :: (R5 ++ ((q12, .inr (6, [.int (nI 4), .ref q13])) :: [(q13, .inl (G.2.2.1 0, 15, .inl (fun _ => 0)))])))))) _ _
  refine z_astq (pc' := 44) (t0 := 3) dX0_init_43 rfl rfl (fun q => q.elim (by decide) (by decide)) ?_
  show Ok G _ _ _ _ _ _ _ _ (X ++ ((b, .inr (0, [.ref q1, .int (nI 0), .int (nI 0)])) :: (([] : va_W) ++ ((q1, .inl (G.2.2.1 3, 8, .inr (.inr (.inr (.inr (va_up (va_up (va_up (va_up (va_up (va_up (fun _ => none) (nI 0).toNatClampNeg (some q2)) (nI 1).toNatClampNeg (some q4)) (nI 2).toNatClampNeg (some q6)) (nI 3).toNatClampNeg (some q8)) (nI 4).toNatClampNeg (some q10)) (nI 5).toNatClampNeg (some q12))))))) :: (R5 ++ bk6 G q12 q13))))) _ _
  obtain ⟨R6, eR6⟩ : ∃ R : va_W, R = R5 ++ bk6 G q12 q13 := ⟨_, rfl⟩
  rw [← eR6]
  refine k_iinc (pc' := 47) (v := nI 6) dX0_init_44 rfl (nI_inc 5) (by decide) rfl ?_
  refine k_goto (tgt := 25) dX0_init_47 rfl ?_
  refine k_iload_n (pc' := 26) dX0_init_25 rfl ?_
  refine k_bipush (pc' := 28) (v := nI 8) dX0_init_26 rfl ?_
  refine k_icmp_ge (pc' := 31) (tgt := 50) dX0_init_28 rfl (fun h => absurd h (by decide)) (fun _ => ?_)
  refine k_aload_n (pc' := 32) dX0_init_31 rfl ?_
  refine y_get (pc' := 35) (q := 0) clX0 (Nat.le_of_ble_eq_true rfl) fl_RX0_11 dX0_init_32 rfl rfl ?_
  refine k_iload_n (pc' := 36) dX0_init_35 rfl ?_
  refine k_new (pc' := 39) (ty := tyX6) (fs := [.int 0, .null]) clX6 dX0_init_36 tw_160 tw_120 tw_99 (fun j hj => by have h : j = 0 ∨ j = 1 := (by omega); rcases h with rfl | rfl <;> rfl) ⟨by decide, by decide⟩ (fun q14 => ?_)
  refine k_dup (pc' := 40) dX0_init_39 rfl ?_
  refine k_callI (ν := mX6_init) (pc' := 43) dX0_init_40 ml_RX0_24 mo_X6_init mc_X6_init rfl (i_X6 (G := G) (X := X ++ ((b, .inr (0, [.ref q1, .int (nI 0), .int (nI 0)])) :: (([] : va_W) ++ ((q1, .inl (G.2.2.1 3, 8, .inr (.inr (.inr (.inr (va_up (va_up (va_up (va_up (va_up (va_up (fun _ => none) (nI 0).toNatClampNeg (some q2)) (nI 1).toNatClampNeg (some q4)) (nI 2).toNatClampNeg (some q6)) (nI 3).toNatClampNeg (some q8)) (nI 4).toNatClampNeg (some q10)) (nI 5).toNatClampNeg (some q12))))))) :: R6)))) (b := q14)) (by decide) rfl rfl (Nat.le_of_ble_eq_true rfl) (Nat.le_of_ble_eq_true rfl) ⟨by decide, by decide⟩ (fun v ws' h => ?_)
  obtain ⟨rfl, q15, rfl⟩ := h
  rw [List.append_assoc]
  rw [List.cons_append, List.append_assoc, List.cons_append]
  show Ok G _ _ _ _ _ _ _ _ (X ++ ((b, .inr (0, [.ref q1, .int (nI 0), .int (nI 0)])) :: (([] : va_W) ++ ((q1, .inl (G.2.2.1 3, 8, .inr (.inr (.inr (.inr (va_up (va_up (va_up (va_up (va_up (va_up (fun _ => none) (nI 0).toNatClampNeg (some q2)) (nI 1).toNatClampNeg (some q4)) (nI 2).toNatClampNeg (some q6)) (nI 3).toNatClampNeg (some q8)) (nI 4).toNatClampNeg (some q10)) (nI 5).toNatClampNeg (some q12))))))) :: (R6 ++ ((q14, .inr (6, [.int (nI 4), .ref q15])) :: [(q15, .inl (G.2.2.1 0, 15, .inl (fun _ => 0)))])))))) _ _
  refine z_astq (pc' := 44) (t0 := 3) dX0_init_43 rfl rfl (fun q => q.elim (by decide) (by decide)) ?_
  show Ok G _ _ _ _ _ _ _ _ (X ++ ((b, .inr (0, [.ref q1, .int (nI 0), .int (nI 0)])) :: (([] : va_W) ++ ((q1, .inl (G.2.2.1 3, 8, .inr (.inr (.inr (.inr (va_up (va_up (va_up (va_up (va_up (va_up (va_up (fun _ => none) (nI 0).toNatClampNeg (some q2)) (nI 1).toNatClampNeg (some q4)) (nI 2).toNatClampNeg (some q6)) (nI 3).toNatClampNeg (some q8)) (nI 4).toNatClampNeg (some q10)) (nI 5).toNatClampNeg (some q12)) (nI 6).toNatClampNeg (some q14))))))) :: (R6 ++ bk6 G q14 q15))))) _ _
  obtain ⟨R7, eR7⟩ : ∃ R : va_W, R = R6 ++ bk6 G q14 q15 := ⟨_, rfl⟩
  rw [← eR7]
  refine k_iinc (pc' := 47) (v := nI 7) dX0_init_44 rfl (nI_inc 6) (by decide) rfl ?_
  refine k_goto (tgt := 25) dX0_init_47 rfl ?_
  refine k_iload_n (pc' := 26) dX0_init_25 rfl ?_
  refine k_bipush (pc' := 28) (v := nI 8) dX0_init_26 rfl ?_
  refine k_icmp_ge (pc' := 31) (tgt := 50) dX0_init_28 rfl (fun h => absurd h (by decide)) (fun _ => ?_)
  refine k_aload_n (pc' := 32) dX0_init_31 rfl ?_
  refine y_get (pc' := 35) (q := 0) clX0 (Nat.le_of_ble_eq_true rfl) fl_RX0_11 dX0_init_32 rfl rfl ?_
  refine k_iload_n (pc' := 36) dX0_init_35 rfl ?_
  refine k_new (pc' := 39) (ty := tyX6) (fs := [.int 0, .null]) clX6 dX0_init_36 tw_160 tw_120 tw_99 (fun j hj => by have h : j = 0 ∨ j = 1 := (by omega); rcases h with rfl | rfl <;> rfl) ⟨by decide, by decide⟩ (fun q16 => ?_)
  refine k_dup (pc' := 40) dX0_init_39 rfl ?_
  refine k_callI (ν := mX6_init) (pc' := 43) dX0_init_40 ml_RX0_24 mo_X6_init mc_X6_init rfl (i_X6 (G := G) (X := X ++ ((b, .inr (0, [.ref q1, .int (nI 0), .int (nI 0)])) :: (([] : va_W) ++ ((q1, .inl (G.2.2.1 3, 8, .inr (.inr (.inr (.inr (va_up (va_up (va_up (va_up (va_up (va_up (va_up (fun _ => none) (nI 0).toNatClampNeg (some q2)) (nI 1).toNatClampNeg (some q4)) (nI 2).toNatClampNeg (some q6)) (nI 3).toNatClampNeg (some q8)) (nI 4).toNatClampNeg (some q10)) (nI 5).toNatClampNeg (some q12)) (nI 6).toNatClampNeg (some q14))))))) :: R7)))) (b := q16)) (by decide) rfl rfl (Nat.le_of_ble_eq_true rfl) (Nat.le_of_ble_eq_true rfl) ⟨by decide, by decide⟩ (fun v ws' h => ?_)
  obtain ⟨rfl, q17, rfl⟩ := h
  rw [List.append_assoc]
  rw [List.cons_append, List.append_assoc, List.cons_append]
  show Ok G _ _ _ _ _ _ _ _ (X ++ ((b, .inr (0, [.ref q1, .int (nI 0), .int (nI 0)])) :: (([] : va_W) ++ ((q1, .inl (G.2.2.1 3, 8, .inr (.inr (.inr (.inr (va_up (va_up (va_up (va_up (va_up (va_up (va_up (fun _ => none) (nI 0).toNatClampNeg (some q2)) (nI 1).toNatClampNeg (some q4)) (nI 2).toNatClampNeg (some q6)) (nI 3).toNatClampNeg (some q8)) (nI 4).toNatClampNeg (some q10)) (nI 5).toNatClampNeg (some q12)) (nI 6).toNatClampNeg (some q14))))))) :: (R7 ++ ((q16, .inr (6, [.int (nI 4), .ref q17])) :: [(q17, .inl (G.2.2.1 0, 15, .inl (fun _ => 0)))])))))) _ _
  refine z_astq (pc' := 44) (t0 := 3) dX0_init_43 rfl rfl (fun q => q.elim (by decide) (by decide)) ?_
  show Ok G _ _ _ _ _ _ _ _ (X ++ ((b, .inr (0, [.ref q1, .int (nI 0), .int (nI 0)])) :: (([] : va_W) ++ ((q1, .inl (G.2.2.1 3, 8, .inr (.inr (.inr (.inr (va_up (va_up (va_up (va_up (va_up (va_up (va_up (va_up (fun _ => none) (nI 0).toNatClampNeg (some q2)) (nI 1).toNatClampNeg (some q4)) (nI 2).toNatClampNeg (some q6)) (nI 3).toNatClampNeg (some q8)) (nI 4).toNatClampNeg (some q10)) (nI 5).toNatClampNeg (some q12)) (nI 6).toNatClampNeg (some q14)) (nI 7).toNatClampNeg (some q16))))))) :: (R7 ++ bk6 G q16 q17))))) _ _
  obtain ⟨R8, eR8⟩ : ∃ R : va_W, R = R7 ++ bk6 G q16 q17 := ⟨_, rfl⟩
  rw [← eR8]
  refine k_iinc (pc' := 47) (v := nI 8) dX0_init_44 rfl (nI_inc 7) (by decide) rfl ?_
  refine k_goto (tgt := 25) dX0_init_47 rfl ?_
  refine k_iload_n (pc' := 26) dX0_init_25 rfl ?_
  refine k_bipush (pc' := 28) (v := nI 8) dX0_init_26 rfl ?_
  refine k_icmp_ge (pc' := 31) (tgt := 50) dX0_init_28 rfl (fun _ => ?_) (fun h => absurd (show nI 8 ≤ nI 8 by decide) h)
  subst eR8
  subst eR7
  subst eR6
  subst eR5
  subst eR4
  subst eR3
  subst eR2
  subst eR1
  exact k_return dX0_init_50 rfl ⟨rfl, q1, q2, q3, q4, q5, q6, q7, q8, q9, q10, q11, q12, q13, q14, q15, q16, q17, rfl⟩
