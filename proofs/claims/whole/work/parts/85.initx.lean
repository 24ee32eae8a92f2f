/-! the class's constructor, by wip/whole/mkinit.py -/
def bk9 (G : GT) (b : Nat) (q1 : Nat) (q2 : Nat) (q3 : Nat) (q4 : Nat) (q5 : Nat) (q6 : Nat) (q7 : Nat) (q8 : Nat) (q9 : Nat) (q10 : Nat) (q11 : Nat) (q12 : Nat) (q13 : Nat) (q14 : Nat) (q15 : Nat) (q16 : Nat) (q17 : Nat) (q18 : Nat) (q19 : Nat) (q20 : Nat) (q21 : Nat) (q22 : Nat) (q23 : Nat) (q24 : Nat) (q25 : Nat) (q26 : Nat) (q27 : Nat) (q28 : Nat) (q29 : Nat) (q30 : Nat) (q31 : Nat) (q32 : Nat) (q33 : Nat) (q34 : Nat) (q35 : Nat) (q36 : Nat) (q37 : Nat) (q38 : Nat) (q39 : Nat) (q40 : Nat) (q41 : Nat) (q42 : Nat) (r43 : Nat → Nat) (q44 : Nat) (q45 : Nat) (q46 : Nat) (q47 : Nat) (q48 : Nat) (q49 : Nat) (r50 : Nat → Nat) (q51 : Nat) (q52 : Nat) (q53 : Nat) (q54 : Nat) (q55 : Nat) (q56 : Nat) (q57 : Nat) (q58 : Nat) (q59 : Nat) (q60 : Nat) (q61 : Nat) (q62 : Nat) (q63 : Nat) (q64 : Nat) : va_W := (b, .inr (9, [.ref q1, .ref q3, .ref q5, .ref q8, .ref q26, .ref q28, .int (nI 0), .ref q31, .ref q32, .ref q34, .ref q36, .ref q44, .ref q48])) :: (((((((([] : va_W) ++ bk6 G q1 q2) ++ bk6 G q3 q4) ++ bk2 G q5 q6 q7) ++ bk0 G q8 q9 q10 q11 q12 q13 q14 q15 q16 q17 q18 q19 q20 q21 q22 q23 q24 q25) ++ bk6 G q26 q27) ++ bk2 G q28 q29 q30) ++ ((q31, .inl (G.2.2.1 4, 6, .inr (.inr (.inr (.inr (va_up (va_up (va_up (va_up (va_up (va_up (fun _ => none) (nI 0).toNatClampNeg (some q53)) (nI 1).toNatClampNeg (some q55)) (nI 2).toNatClampNeg (some q57)) (nI 3).toNatClampNeg (some q59)) (nI 4).toNatClampNeg (some q61)) (nI 5).toNatClampNeg (some q63))))))) :: (((((((((((([] : va_W) ++ bk7 G q32 q33) ++ bk4 G q34 q35) ++ bk8 G q36 q37 q38 q39 q40 q41 q42 r43) ++ bk5 G q44 q45 q46 q47) ++ bk3 G q48 q49 r50 q51 q52) ++ bk1 G q53 q54) ++ bk1 G q55 q56) ++ bk1 G q57 q58) ++ bk1 G q59 q60) ++ bk1 G q61 q62) ++ bk1 G q63 q64)))
theorem i_X9 {G : GT} {X : va_W} {b : Nat} : Con G mX9_init 3 83 968 [.ref b] (X ++ [(b, .inr (9, [.null, .null, .null, .null, .null, .null, .int 0, .null, .null, .null, .null, .null, .null]))]) (fun v ws' => v = none ∧ ∃ (q1 : Nat) (q2 : Nat) (q3 : Nat) (q4 : Nat) (q5 : Nat) (q6 : Nat) (q7 : Nat) (q8 : Nat) (q9 : Nat) (q10 : Nat) (q11 : Nat) (q12 : Nat) (q13 : Nat) (q14 : Nat) (q15 : Nat) (q16 : Nat) (q17 : Nat) (q18 : Nat) (q19 : Nat) (q20 : Nat) (q21 : Nat) (q22 : Nat) (q23 : Nat) (q24 : Nat) (q25 : Nat) (q26 : Nat) (q27 : Nat) (q28 : Nat) (q29 : Nat) (q30 : Nat) (q31 : Nat) (q32 : Nat) (q33 : Nat) (q34 : Nat) (q35 : Nat) (q36 : Nat) (q37 : Nat) (q38 : Nat) (q39 : Nat) (q40 : Nat) (q41 : Nat) (q42 : Nat) (r43 : Nat → Nat) (q44 : Nat) (q45 : Nat) (q46 : Nat) (q47 : Nat) (q48 : Nat) (q49 : Nat) (r50 : Nat → Nat) (q51 : Nat) (q52 : Nat) (q53 : Nat) (q54 : Nat) (q55 : Nat) (q56 : Nat) (q57 : Nat) (q58 : Nat) (q59 : Nat) (q60 : Nat) (q61 : Nat) (q62 : Nat) (q63 : Nat) (q64 : Nat), ws' = X ++ bk9 G b q1 q2 q3 q4 q5 q6 q7 q8 q9 q10 q11 q12 q13 q14 q15 q16 q17 q18 q19 q20 q21 q22 q23 q24 q25 q26 q27 q28 q29 q30 q31 q32 q33 q34 q35 q36 q37 q38 q39 q40 q41 q42 r43 q44 q45 q46 q47 q48 q49 r50 q51 q52 q53 q54 q55 q56 q57 q58 q59 q60 q61 q62 q63 q64) := by
  refine Con.of rfl (Nat.le_of_ble_eq_true rfl) ?_
  refine k_aload_n (pc' := 1) dX9_init_0 rfl ?_
  refine k_obj (pc' := 4) dX9_init_1 tw_116 tw_117 tw_118 (by decide) (Nat.le_of_ble_eq_true rfl) ?_
  refine k_aload_n (pc' := 5) dX9_init_4 rfl ?_
  refine k_new (pc' := 8) (ty := tyX6) (fs := [.int 0, .null]) clX6 dX9_init_5 tw_119 tw_120 tw_99 (fun j hj => by have h : j = 0 ∨ j = 1 := (by omega); rcases h with rfl | rfl <;> rfl) ⟨by decide, by decide⟩ (fun q1 => ?_)
  refine k_dup (pc' := 9) dX9_init_8 rfl ?_
  refine k_callI (ν := mX6_init) (pc' := 12) dX9_init_9 ml_RX9_11 mo_X6_init mc_X6_init rfl (i_X6 (G := G) (X := X ++ ((b, .inr (9, [.null, .null, .null, .null, .null, .null, .int 0, .null, .null, .null, .null, .null, .null])) :: ([] : va_W))) (b := q1)) (by decide) rfl rfl (Nat.le_of_ble_eq_true rfl) (Nat.le_of_ble_eq_true rfl) ⟨by decide, by decide⟩ (fun v ws' h => ?_)
  obtain ⟨rfl, q2, rfl⟩ := h
  rw [List.append_assoc]
  show Ok G _ _ _ _ _ _ _ _ (X ++ ((b, .inr (9, [.null, .null, .null, .null, .null, .null, .int 0, .null, .null, .null, .null, .null, .null])) :: (([] : va_W) ++ bk6 G q1 q2))) _ _
  obtain ⟨R1, eR1⟩ : ∃ R : va_W, R = ([] : va_W) ++ bk6 G q1 q2 := ⟨_, rfl⟩
  rw [← eR1]
  refine y_putF (pc' := 15) (k := 0) (q := 0) clX9 (Nat.le_of_ble_eq_true rfl) tw_317 dX9_init_12 rfl rfl rfl rfl rfl rfl (Nat.le_of_ble_eq_true rfl) ?_
  show Ok G _ _ _ _ _ _ _ _ (X ++ ((b, .inr (9, [.ref q1, .null, .null, .null, .null, .null, .int 0, .null, .null, .null, .null, .null, .null])) :: R1)) _ _
  refine k_aload_n (pc' := 16) dX9_init_15 rfl ?_
  refine k_new (pc' := 19) (ty := tyX6) (fs := [.int 0, .null]) clX6 dX9_init_16 tw_119 tw_120 tw_99 (fun j hj => by have h : j = 0 ∨ j = 1 := (by omega); rcases h with rfl | rfl <;> rfl) ⟨by decide, by decide⟩ (fun q3 => ?_)
  refine k_dup (pc' := 20) dX9_init_19 rfl ?_
  refine k_callI (ν := mX6_init) (pc' := 23) dX9_init_20 ml_RX9_11 mo_X6_init mc_X6_init rfl (i_X6 (G := G) (X := X ++ ((b, .inr (9, [.ref q1, .null, .null, .null, .null, .null, .int 0, .null, .null, .null, .null, .null, .null])) :: R1)) (b := q3)) (by decide) rfl rfl (Nat.le_of_ble_eq_true rfl) (Nat.le_of_ble_eq_true rfl) ⟨by decide, by decide⟩ (fun v ws' h => ?_)
  obtain ⟨rfl, q4, rfl⟩ := h
  rw [List.append_assoc]
  show Ok G _ _ _ _ _ _ _ _ (X ++ ((b, .inr (9, [.ref q1, .null, .null, .null, .null, .null, .int 0, .null, .null, .null, .null, .null, .null])) :: (R1 ++ bk6 G q3 q4))) _ _
  obtain ⟨R2, eR2⟩ : ∃ R : va_W, R = R1 ++ bk6 G q3 q4 := ⟨_, rfl⟩
  rw [← eR2]
  refine y_putF (pc' := 26) (k := 1) (q := 0) clX9 (Nat.le_of_ble_eq_true rfl) tw_318 dX9_init_23 rfl rfl rfl rfl rfl rfl (Nat.le_of_ble_eq_true rfl) ?_
  show Ok G _ _ _ _ _ _ _ _ (X ++ ((b, .inr (9, [.ref q1, .ref q3, .null, .null, .null, .null, .int 0, .null, .null, .null, .null, .null, .null])) :: R2)) _ _
  refine k_aload_n (pc' := 27) dX9_init_26 rfl ?_
  refine k_new (pc' := 30) (ty := tyX2) (fs := [.null, .null]) clX2 dX9_init_27 tw_139 tw_140 tw_100 (fun j hj => by have h : j = 0 ∨ j = 1 := (by omega); rcases h with rfl | rfl <;> rfl) ⟨by decide, by decide⟩ (fun q5 => ?_)
  refine k_dup (pc' := 31) dX9_init_30 rfl ?_
  refine k_callI (ν := mX2_init) (pc' := 34) dX9_init_31 ml_RX9_23 mo_X2_init mc_X2_init rfl (i_X2 (G := G) (X := X ++ ((b, .inr (9, [.ref q1, .ref q3, .null, .null, .null, .null, .int 0, .null, .null, .null, .null, .null, .null])) :: R2)) (b := q5)) (by decide) rfl rfl (Nat.le_of_ble_eq_true rfl) (Nat.le_of_ble_eq_true rfl) ⟨by decide, by decide⟩ (fun v ws' h => ?_)
  obtain ⟨rfl, q6, q7, rfl⟩ := h
  rw [List.append_assoc]
  show Ok G _ _ _ _ _ _ _ _ (X ++ ((b, .inr (9, [.ref q1, .ref q3, .null, .null, .null, .null, .int 0, .null, .null, .null, .null, .null, .null])) :: (R2 ++ bk2 G q5 q6 q7))) _ _
  obtain ⟨R3, eR3⟩ : ∃ R : va_W, R = R2 ++ bk2 G q5 q6 q7 := ⟨_, rfl⟩
  rw [← eR3]
  refine y_putF (pc' := 37) (k := 2) (q := 0) clX9 (Nat.le_of_ble_eq_true rfl) tw_319 dX9_init_34 rfl rfl rfl rfl rfl rfl (Nat.le_of_ble_eq_true rfl) ?_
  show Ok G _ _ _ _ _ _ _ _ (X ++ ((b, .inr (9, [.ref q1, .ref q3, .ref q5, .null, .null, .null, .int 0, .null, .null, .null, .null, .null, .null])) :: R3)) _ _
  refine k_aload_n (pc' := 38) dX9_init_37 rfl ?_
  refine k_new (pc' := 41) (ty := tyX0) (fs := [.null, .int 0, .int 0]) clX0 dX9_init_38 tw_154 tw_155 tw_101 (fun j hj => by have h : j = 0 ∨ j = 1 ∨ j = 2 := (by omega); rcases h with rfl | rfl | rfl <;> rfl) ⟨by decide, by decide⟩ (fun q8 => ?_)
  refine k_dup (pc' := 42) dX9_init_41 rfl ?_
  refine k_callI (ν := mX0_init) (pc' := 45) dX9_init_42 ml_RX9_30 mo_X0_init mc_X0_init rfl (i_X0 (G := G) (X := X ++ ((b, .inr (9, [.ref q1, .ref q3, .ref q5, .null, .null, .null, .int 0, .null, .null, .null, .null, .null, .null])) :: R3)) (b := q8)) (by decide) rfl rfl (Nat.le_of_ble_eq_true rfl) (Nat.le_of_ble_eq_true rfl) ⟨by decide, by decide⟩ (fun v ws' h => ?_)
  obtain ⟨rfl, q9, q10, q11, q12, q13, q14, q15, q16, q17, q18, q19, q20, q21, q22, q23, q24, q25, rfl⟩ := h
  rw [List.append_assoc]
  show Ok G _ _ _ _ _ _ _ _ (X ++ ((b, .inr (9, [.ref q1, .ref q3, .ref q5, .null, .null, .null, .int 0, .null, .null, .null, .null, .null, .null])) :: (R3 ++ bk0 G q8 q9 q10 q11 q12 q13 q14 q15 q16 q17 q18 q19 q20 q21 q22 q23 q24 q25))) _ _
  obtain ⟨R4, eR4⟩ : ∃ R : va_W, R = R3 ++ bk0 G q8 q9 q10 q11 q12 q13 q14 q15 q16 q17 q18 q19 q20 q21 q22 q23 q24 q25 := ⟨_, rfl⟩
  rw [← eR4]
  refine y_putF (pc' := 48) (k := 3) (q := 0) clX9 (Nat.le_of_ble_eq_true rfl) tw_320 dX9_init_45 rfl rfl rfl rfl rfl rfl (Nat.le_of_ble_eq_true rfl) ?_
  show Ok G _ _ _ _ _ _ _ _ (X ++ ((b, .inr (9, [.ref q1, .ref q3, .ref q5, .ref q8, .null, .null, .int 0, .null, .null, .null, .null, .null, .null])) :: R4)) _ _
  refine k_aload_n (pc' := 49) dX9_init_48 rfl ?_
  refine k_new (pc' := 52) (ty := tyX6) (fs := [.int 0, .null]) clX6 dX9_init_49 tw_119 tw_120 tw_99 (fun j hj => by have h : j = 0 ∨ j = 1 := (by omega); rcases h with rfl | rfl <;> rfl) ⟨by decide, by decide⟩ (fun q26 => ?_)
  refine k_dup (pc' := 53) dX9_init_52 rfl ?_
  refine k_callI (ν := mX6_init) (pc' := 56) dX9_init_53 ml_RX9_11 mo_X6_init mc_X6_init rfl (i_X6 (G := G) (X := X ++ ((b, .inr (9, [.ref q1, .ref q3, .ref q5, .ref q8, .null, .null, .int 0, .null, .null, .null, .null, .null, .null])) :: R4)) (b := q26)) (by decide) rfl rfl (Nat.le_of_ble_eq_true rfl) (Nat.le_of_ble_eq_true rfl) ⟨by decide, by decide⟩ (fun v ws' h => ?_)
  obtain ⟨rfl, q27, rfl⟩ := h
  rw [List.append_assoc]
  show Ok G _ _ _ _ _ _ _ _ (X ++ ((b, .inr (9, [.ref q1, .ref q3, .ref q5, .ref q8, .null, .null, .int 0, .null, .null, .null, .null, .null, .null])) :: (R4 ++ bk6 G q26 q27))) _ _
  obtain ⟨R5, eR5⟩ : ∃ R : va_W, R = R4 ++ bk6 G q26 q27 := ⟨_, rfl⟩
  rw [← eR5]
  refine y_putF (pc' := 59) (k := 4) (q := 0) clX9 (Nat.le_of_ble_eq_true rfl) tw_321 dX9_init_56 rfl rfl rfl rfl rfl rfl (Nat.le_of_ble_eq_true rfl) ?_
  show Ok G _ _ _ _ _ _ _ _ (X ++ ((b, .inr (9, [.ref q1, .ref q3, .ref q5, .ref q8, .ref q26, .null, .int 0, .null, .null, .null, .null, .null, .null])) :: R5)) _ _
  refine k_aload_n (pc' := 60) dX9_init_59 rfl ?_
  refine k_new (pc' := 63) (ty := tyX2) (fs := [.null, .null]) clX2 dX9_init_60 tw_139 tw_140 tw_100 (fun j hj => by have h : j = 0 ∨ j = 1 := (by omega); rcases h with rfl | rfl <;> rfl) ⟨by decide, by decide⟩ (fun q28 => ?_)
  refine k_dup (pc' := 64) dX9_init_63 rfl ?_
  refine k_callI (ν := mX2_init) (pc' := 67) dX9_init_64 ml_RX9_23 mo_X2_init mc_X2_init rfl (i_X2 (G := G) (X := X ++ ((b, .inr (9, [.ref q1, .ref q3, .ref q5, .ref q8, .ref q26, .null, .int 0, .null, .null, .null, .null, .null, .null])) :: R5)) (b := q28)) (by decide) rfl rfl (Nat.le_of_ble_eq_true rfl) (Nat.le_of_ble_eq_true rfl) ⟨by decide, by decide⟩ (fun v ws' h => ?_)
  obtain ⟨rfl, q29, q30, rfl⟩ := h
  rw [List.append_assoc]
  show Ok G _ _ _ _ _ _ _ _ (X ++ ((b, .inr (9, [.ref q1, .ref q3, .ref q5, .ref q8, .ref q26, .null, .int 0, .null, .null, .null, .null, .null, .null])) :: (R5 ++ bk2 G q28 q29 q30))) _ _
  obtain ⟨R6, eR6⟩ : ∃ R : va_W, R = R5 ++ bk2 G q28 q29 q30 := ⟨_, rfl⟩
  rw [← eR6]
  refine y_putF (pc' := 70) (k := 5) (q := 0) clX9 (Nat.le_of_ble_eq_true rfl) tw_322 dX9_init_67 rfl rfl rfl rfl rfl rfl (Nat.le_of_ble_eq_true rfl) ?_
  show Ok G _ _ _ _ _ _ _ _ (X ++ ((b, .inr (9, [.ref q1, .ref q3, .ref q5, .ref q8, .ref q26, .ref q28, .int 0, .null, .null, .null, .null, .null, .null])) :: R6)) _ _
  refine k_aload_n (pc' := 71) dX9_init_70 rfl ?_
  refine k_iconst (pc' := 72) (v := nI 0) dX9_init_71 rfl ?_
  refine y_put (pc' := 75) (q := 0) clX9 (Nat.le_of_ble_eq_true rfl) fl_RX9_41 dX9_init_72 rfl rfl rfl rfl (Nat.le_of_ble_eq_true rfl) ?_
  show Ok G _ _ _ _ _ _ _ _ (X ++ ((b, .inr (9, [.ref q1, .ref q3, .ref q5, .ref q8, .ref q26, .ref q28, .int (nI 0), .null, .null, .null, .null, .null, .null])) :: R6)) _ _
  refine k_aload_n (pc' := 76) dX9_init_75 rfl ?_
  refine k_bipush (pc' := 78) (v := nI 6) dX9_init_76 rfl ?_
  refine y_newq (pc' := 81) (t0 := 4) (N' := 6) (C := RX1) dX9_init_78 tw_174 tw_175 rfl (by decide) rfl (Nat.le_of_ble_eq_true rfl) ⟨by decide, by decide⟩ (fun q31 => ?_)
  show Ok G _ _ _ _ _ _ _ _ (X ++ ((b, .inr (9, [.ref q1, .ref q3, .ref q5, .ref q8, .ref q26, .ref q28, .int (nI 0), .null, .null, .null, .null, .null, .null])) :: (R6 ++ ((q31, .inl (G.2.2.1 4, 6, .inr (.inr (.inr (.inr (fun _ => none)))))) :: ([] : va_W))))) _ _
  refine y_putF (pc' := 84) (k := 7) (q := 0) clX9 (Nat.le_of_ble_eq_true rfl) tw_324 dX9_init_81 rfl rfl rfl rfl rfl rfl (Nat.le_of_ble_eq_true rfl) ?_
  show Ok G _ _ _ _ _ _ _ _ (X ++ ((b, .inr (9, [.ref q1, .ref q3, .ref q5, .ref q8, .ref q26, .ref q28, .int (nI 0), .ref q31, .null, .null, .null, .null, .null])) :: (R6 ++ ((q31, .inl (G.2.2.1 4, 6, .inr (.inr (.inr (.inr (fun _ => none)))))) :: ([] : va_W))))) _ _
  refine k_aload_n (pc' := 85) dX9_init_84 rfl ?_
  refine k_new (pc' := 88) (ty := tyX7) (fs := [.null, .int 0, .int 0]) clX7 dX9_init_85 tw_176 tw_177 tw_102 (fun j hj => by have h : j = 0 ∨ j = 1 ∨ j = 2 := (by omega); rcases h with rfl | rfl | rfl <;> rfl) ⟨by decide, by decide⟩ (fun q32 => ?_)
  refine k_dup (pc' := 89) dX9_init_88 rfl ?_
  refine k_callI (ν := mX7_init) (pc' := 92) dX9_init_89 ml_RX9_53 mo_X7_init mc_X7_init rfl (i_X7 (G := G) (X := X ++ ((b, .inr (9, [.ref q1, .ref q3, .ref q5, .ref q8, .ref q26, .ref q28, .int (nI 0), .ref q31, .null, .null, .null, .null, .null])) :: (R6 ++ ((q31, .inl (G.2.2.1 4, 6, .inr (.inr (.inr (.inr (fun _ => none)))))) :: ([] : va_W))))) (b := q32)) (by decide) rfl rfl (Nat.le_of_ble_eq_true rfl) (Nat.le_of_ble_eq_true rfl) ⟨by decide, by decide⟩ (fun v ws' h => ?_)
  obtain ⟨rfl, q33, rfl⟩ := h
  rw [List.append_assoc]
  rw [List.cons_append, List.append_assoc, List.cons_append]
  show Ok G _ _ _ _ _ _ _ _ (X ++ ((b, .inr (9, [.ref q1, .ref q3, .ref q5, .ref q8, .ref q26, .ref q28, .int (nI 0), .ref q31, .null, .null, .null, .null, .null])) :: (R6 ++ ((q31, .inl (G.2.2.1 4, 6, .inr (.inr (.inr (.inr (fun _ => none)))))) :: (([] : va_W) ++ bk7 G q32 q33))))) _ _
  obtain ⟨R7, eR7⟩ : ∃ R : va_W, R = ([] : va_W) ++ bk7 G q32 q33 := ⟨_, rfl⟩
  rw [← eR7]
  refine y_putF (pc' := 95) (k := 8) (q := 0) clX9 (Nat.le_of_ble_eq_true rfl) tw_325 dX9_init_92 rfl rfl rfl rfl rfl rfl (Nat.le_of_ble_eq_true rfl) ?_
  show Ok G _ _ _ _ _ _ _ _ (X ++ ((b, .inr (9, [.ref q1, .ref q3, .ref q5, .ref q8, .ref q26, .ref q28, .int (nI 0), .ref q31, .ref q32, .null, .null, .null, .null])) :: (R6 ++ ((q31, .inl (G.2.2.1 4, 6, .inr (.inr (.inr (.inr (fun _ => none)))))) :: R7)))) _ _
  refine k_aload_n (pc' := 96) dX9_init_95 rfl ?_
  refine k_new (pc' := 99) (ty := tyX4) (fs := [.null, .int 0]) clX4 dX9_init_96 tw_193 tw_194 tw_103 (fun j hj => by have h : j = 0 ∨ j = 1 := (by omega); rcases h with rfl | rfl <;> rfl) ⟨by decide, by decide⟩ (fun q34 => ?_)
  refine k_dup (pc' := 100) dX9_init_99 rfl ?_
  refine k_callI (ν := mX4_init) (pc' := 103) dX9_init_100 ml_RX9_60 mo_X4_init mc_X4_init rfl (i_X4 (G := G) (X := X ++ ((b, .inr (9, [.ref q1, .ref q3, .ref q5, .ref q8, .ref q26, .ref q28, .int (nI 0), .ref q31, .ref q32, .null, .null, .null, .null])) :: (R6 ++ ((q31, .inl (G.2.2.1 4, 6, .inr (.inr (.inr (.inr (fun _ => none)))))) :: R7)))) (b := q34)) (by decide) rfl rfl (Nat.le_of_ble_eq_true rfl) (Nat.le_of_ble_eq_true rfl) ⟨by decide, by decide⟩ (fun v ws' h => ?_)
  obtain ⟨rfl, q35, rfl⟩ := h
  rw [List.append_assoc]
  rw [List.cons_append, List.append_assoc, List.cons_append]
  show Ok G _ _ _ _ _ _ _ _ (X ++ ((b, .inr (9, [.ref q1, .ref q3, .ref q5, .ref q8, .ref q26, .ref q28, .int (nI 0), .ref q31, .ref q32, .null, .null, .null, .null])) :: (R6 ++ ((q31, .inl (G.2.2.1 4, 6, .inr (.inr (.inr (.inr (fun _ => none)))))) :: (R7 ++ bk4 G q34 q35))))) _ _
  obtain ⟨R8, eR8⟩ : ∃ R : va_W, R = R7 ++ bk4 G q34 q35 := ⟨_, rfl⟩
  rw [← eR8]
  refine y_putF (pc' := 106) (k := 9) (q := 0) clX9 (Nat.le_of_ble_eq_true rfl) tw_326 dX9_init_103 rfl rfl rfl rfl rfl rfl (Nat.le_of_ble_eq_true rfl) ?_
  show Ok G _ _ _ _ _ _ _ _ (X ++ ((b, .inr (9, [.ref q1, .ref q3, .ref q5, .ref q8, .ref q26, .ref q28, .int (nI 0), .ref q31, .ref q32, .ref q34, .null, .null, .null])) :: (R6 ++ ((q31, .inl (G.2.2.1 4, 6, .inr (.inr (.inr (.inr (fun _ => none)))))) :: R8)))) _ _
  refine k_aload_n (pc' := 107) dX9_init_106 rfl ?_
  refine k_new (pc' := 110) (ty := tyX8) (fs := [.null, .int 0, .int 0, .int 0, .null, .null, .null, .null]) clX8 dX9_init_107 tw_208 tw_209 tw_104 (fun j hj => by have h : j = 0 ∨ j = 1 ∨ j = 2 ∨ j = 3 ∨ j = 4 ∨ j = 5 ∨ j = 6 ∨ j = 7 := (by omega); rcases h with rfl | rfl | rfl | rfl | rfl | rfl | rfl | rfl <;> rfl) ⟨by decide, by decide⟩ (fun q36 => ?_)
  refine k_dup (pc' := 111) dX9_init_110 rfl ?_
  refine k_callI (ν := mX8_init) (pc' := 114) dX9_init_111 ml_RX9_67 mo_X8_init mc_X8_init rfl (i_X8 (G := G) (X := X ++ ((b, .inr (9, [.ref q1, .ref q3, .ref q5, .ref q8, .ref q26, .ref q28, .int (nI 0), .ref q31, .ref q32, .ref q34, .null, .null, .null])) :: (R6 ++ ((q31, .inl (G.2.2.1 4, 6, .inr (.inr (.inr (.inr (fun _ => none)))))) :: R8)))) (b := q36)) (by decide) rfl rfl (Nat.le_of_ble_eq_true rfl) (Nat.le_of_ble_eq_true rfl) ⟨by decide, by decide⟩ (fun v ws' h => ?_)
  obtain ⟨rfl, q37, q38, q39, q40, q41, q42, r43, rfl⟩ := h
  rw [List.append_assoc]
  rw [List.cons_append, List.append_assoc, List.cons_append]
  show Ok G _ _ _ _ _ _ _ _ (X ++ ((b, .inr (9, [.ref q1, .ref q3, .ref q5, .ref q8, .ref q26, .ref q28, .int (nI 0), .ref q31, .ref q32, .ref q34, .null, .null, .null])) :: (R6 ++ ((q31, .inl (G.2.2.1 4, 6, .inr (.inr (.inr (.inr (fun _ => none)))))) :: (R8 ++ bk8 G q36 q37 q38 q39 q40 q41 q42 r43))))) _ _
  obtain ⟨R9, eR9⟩ : ∃ R : va_W, R = R8 ++ bk8 G q36 q37 q38 q39 q40 q41 q42 r43 := ⟨_, rfl⟩
  rw [← eR9]
  refine y_putF (pc' := 117) (k := 10) (q := 0) clX9 (Nat.le_of_ble_eq_true rfl) tw_327 dX9_init_114 rfl rfl rfl rfl rfl rfl (Nat.le_of_ble_eq_true rfl) ?_
  show Ok G _ _ _ _ _ _ _ _ (X ++ ((b, .inr (9, [.ref q1, .ref q3, .ref q5, .ref q8, .ref q26, .ref q28, .int (nI 0), .ref q31, .ref q32, .ref q34, .ref q36, .null, .null])) :: (R6 ++ ((q31, .inl (G.2.2.1 4, 6, .inr (.inr (.inr (.inr (fun _ => none)))))) :: R9)))) _ _
  refine k_aload_n (pc' := 118) dX9_init_117 rfl ?_
  refine k_new (pc' := 121) (ty := tyX5) (fs := [.null, .null, .null, .int 0, .int 0]) clX5 dX9_init_118 tw_245 tw_246 tw_105 (fun j hj => by have h : j = 0 ∨ j = 1 ∨ j = 2 ∨ j = 3 ∨ j = 4 := (by omega); rcases h with rfl | rfl | rfl | rfl | rfl <;> rfl) ⟨by decide, by decide⟩ (fun q44 => ?_)
  refine k_dup (pc' := 122) dX9_init_121 rfl ?_
  refine k_callI (ν := mX5_init) (pc' := 125) dX9_init_122 ml_RX9_74 mo_X5_init mc_X5_init rfl (i_X5 (G := G) (X := X ++ ((b, .inr (9, [.ref q1, .ref q3, .ref q5, .ref q8, .ref q26, .ref q28, .int (nI 0), .ref q31, .ref q32, .ref q34, .ref q36, .null, .null])) :: (R6 ++ ((q31, .inl (G.2.2.1 4, 6, .inr (.inr (.inr (.inr (fun _ => none)))))) :: R9)))) (b := q44)) (by decide) rfl rfl (Nat.le_of_ble_eq_true rfl) (Nat.le_of_ble_eq_true rfl) ⟨by decide, by decide⟩ (fun v ws' h => ?_)
  obtain ⟨rfl, q45, q46, q47, rfl⟩ := h
  rw [List.append_assoc]
  rw [List.cons_append, List.append_assoc, List.cons_append]
  show Ok G _ _ _ _ _ _ _ _ (X ++ ((b, .inr (9, [.ref q1, .ref q3, .ref q5, .ref q8, .ref q26, .ref q28, .int (nI 0), .ref q31, .ref q32, .ref q34, .ref q36, .null, .null])) :: (R6 ++ ((q31, .inl (G.2.2.1 4, 6, .inr (.inr (.inr (.inr (fun _ => none)))))) :: (R9 ++ bk5 G q44 q45 q46 q47))))) _ _
  obtain ⟨R10, eR10⟩ : ∃ R : va_W, R = R9 ++ bk5 G q44 q45 q46 q47 := ⟨_, rfl⟩
  rw [← eR10]
  refine y_putF (pc' := 128) (k := 11) (q := 0) clX9 (Nat.le_of_ble_eq_true rfl) tw_328 dX9_init_125 rfl rfl rfl rfl rfl rfl (Nat.le_of_ble_eq_true rfl) ?_
  show Ok G _ _ _ _ _ _ _ _ (X ++ ((b, .inr (9, [.ref q1, .ref q3, .ref q5, .ref q8, .ref q26, .ref q28, .int (nI 0), .ref q31, .ref q32, .ref q34, .ref q36, .ref q44, .null])) :: (R6 ++ ((q31, .inl (G.2.2.1 4, 6, .inr (.inr (.inr (.inr (fun _ => none)))))) :: R10)))) _ _
  refine k_aload_n (pc' := 129) dX9_init_128 rfl ?_
  refine k_new (pc' := 132) (ty := tyX3) (fs := [.null, .null, .null, .int 0, .int 0]) clX3 dX9_init_129 tw_268 tw_269 tw_106 (fun j hj => by have h : j = 0 ∨ j = 1 ∨ j = 2 ∨ j = 3 ∨ j = 4 := (by omega); rcases h with rfl | rfl | rfl | rfl | rfl <;> rfl) ⟨by decide, by decide⟩ (fun q48 => ?_)
  refine k_dup (pc' := 133) dX9_init_132 rfl ?_
  refine k_callI (ν := mX3_init) (pc' := 136) dX9_init_133 ml_RX9_81 mo_X3_init mc_X3_init rfl (i_X3 (G := G) (X := X ++ ((b, .inr (9, [.ref q1, .ref q3, .ref q5, .ref q8, .ref q26, .ref q28, .int (nI 0), .ref q31, .ref q32, .ref q34, .ref q36, .ref q44, .null])) :: (R6 ++ ((q31, .inl (G.2.2.1 4, 6, .inr (.inr (.inr (.inr (fun _ => none)))))) :: R10)))) (b := q48)) (by decide) rfl rfl (Nat.le_of_ble_eq_true rfl) (Nat.le_of_ble_eq_true rfl) ⟨by decide, by decide⟩ (fun v ws' h => ?_)
  obtain ⟨rfl, q49, r50, q51, q52, rfl⟩ := h
  rw [List.append_assoc]
  rw [List.cons_append, List.append_assoc, List.cons_append]
  show Ok G _ _ _ _ _ _ _ _ (X ++ ((b, .inr (9, [.ref q1, .ref q3, .ref q5, .ref q8, .ref q26, .ref q28, .int (nI 0), .ref q31, .ref q32, .ref q34, .ref q36, .ref q44, .null])) :: (R6 ++ ((q31, .inl (G.2.2.1 4, 6, .inr (.inr (.inr (.inr (fun _ => none)))))) :: (R10 ++ bk3 G q48 q49 r50 q51 q52))))) _ _
  obtain ⟨R11, eR11⟩ : ∃ R : va_W, R = R10 ++ bk3 G q48 q49 r50 q51 q52 := ⟨_, rfl⟩
  rw [← eR11]
  refine y_putF (pc' := 139) (k := 12) (q := 0) clX9 (Nat.le_of_ble_eq_true rfl) tw_329 dX9_init_136 rfl rfl rfl rfl rfl rfl (Nat.le_of_ble_eq_true rfl) ?_
  show Ok G _ _ _ _ _ _ _ _ (X ++ ((b, .inr (9, [.ref q1, .ref q3, .ref q5, .ref q8, .ref q26, .ref q28, .int (nI 0), .ref q31, .ref q32, .ref q34, .ref q36, .ref q44, .ref q48])) :: (R6 ++ ((q31, .inl (G.2.2.1 4, 6, .inr (.inr (.inr (.inr (fun _ => none)))))) :: R11)))) _ _
  refine k_iconst (pc' := 140) (v := nI 0) dX9_init_139 rfl ?_
  refine k_istore_n (pc' := 141) dX9_init_140 (by decide) rfl ?_
  refine k_iload_n (pc' := 142) dX9_init_141 rfl ?_
  refine k_bipush (pc' := 144) (v := nI 6) dX9_init_142 rfl ?_
  refine k_icmp_ge (pc' := 147) (tgt := 166) dX9_init_144 rfl (fun h => absurd h (by decide)) (fun _ => ?_)
  refine k_aload_n (pc' := 148) dX9_init_147 rfl ?_
  refine y_get (pc' := 151) (q := 0) clX9 (Nat.le_of_ble_eq_true rfl) fl_RX9_47 dX9_init_148 rfl rfl ?_
  refine k_iload_n (pc' := 152) dX9_init_151 rfl ?_
  refine k_new (pc' := 155) (ty := tyX1) (fs := [.int 0, .int 0, .int 0, .null]) clX1 dX9_init_152 tw_174 tw_295 tw_107 (fun j hj => by have h : j = 0 ∨ j = 1 ∨ j = 2 ∨ j = 3 := (by omega); rcases h with rfl | rfl | rfl | rfl <;> rfl) ⟨by decide, by decide⟩ (fun q53 => ?_)
  refine k_dup (pc' := 156) dX9_init_155 rfl ?_
  refine k_callI (ν := mX1_init) (pc' := 159) dX9_init_156 ml_RX9_86 mo_X1_init mc_X1_init rfl (i_X1 (G := G) (X := X ++ ((b, .inr (9, [.ref q1, .ref q3, .ref q5, .ref q8, .ref q26, .ref q28, .int (nI 0), .ref q31, .ref q32, .ref q34, .ref q36, .ref q44, .ref q48])) :: (R6 ++ ((q31, .inl (G.2.2.1 4, 6, .inr (.inr (.inr (.inr (fun _ => none)))))) :: R11)))) (b := q53)) (by decide) rfl rfl (Nat.le_of_ble_eq_true rfl) (Nat.le_of_ble_eq_true rfl) ⟨by decide, by decide⟩ (fun v ws' h => ?_)
  obtain ⟨rfl, q54, rfl⟩ := h
  rw [List.append_assoc]
  rw [List.cons_append, List.append_assoc, List.cons_append]
  show Ok G _ _ _ _ _ _ _ _ (X ++ ((b, .inr (9, [.ref q1, .ref q3, .ref q5, .ref q8, .ref q26, .ref q28, .int (nI 0), .ref q31, .ref q32, .ref q34, .ref q36, .ref q44, .ref q48])) :: (R6 ++ ((q31, .inl (G.2.2.1 4, 6, .inr (.inr (.inr (.inr (fun _ => none)))))) :: (R11 ++ ((q53, .inr (1, [.int (nI 0), .int (nI 0), .int (nI 0), .ref q54])) :: [(q54, .inl (G.2.2.1 0, 20, .inl (fun _ => 0)))])))))) _ _
  refine z_astq (pc' := 160) (t0 := 4) dX9_init_159 rfl rfl (fun q => q.elim (by decide) (by decide)) ?_
  show Ok G _ _ _ _ _ _ _ _ (X ++ ((b, .inr (9, [.ref q1, .ref q3, .ref q5, .ref q8, .ref q26, .ref q28, .int (nI 0), .ref q31, .ref q32, .ref q34, .ref q36, .ref q44, .ref q48])) :: (R6 ++ ((q31, .inl (G.2.2.1 4, 6, .inr (.inr (.inr (.inr (va_up (fun _ => none) (nI 0).toNatClampNeg (some q53))))))) :: (R11 ++ bk1 G q53 q54))))) _ _
  obtain ⟨R12, eR12⟩ : ∃ R : va_W, R = R11 ++ bk1 G q53 q54 := ⟨_, rfl⟩
  rw [← eR12]
  refine k_iinc (pc' := 163) (v := nI 1) dX9_init_160 rfl (nI_inc 0) (by decide) rfl ?_
  refine k_goto (tgt := 141) dX9_init_163 rfl ?_
  refine k_iload_n (pc' := 142) dX9_init_141 rfl ?_
  refine k_bipush (pc' := 144) (v := nI 6) dX9_init_142 rfl ?_
  refine k_icmp_ge (pc' := 147) (tgt := 166) dX9_init_144 rfl (fun h => absurd h (by decide)) (fun _ => ?_)
  refine k_aload_n (pc' := 148) dX9_init_147 rfl ?_
  refine y_get (pc' := 151) (q := 0) clX9 (Nat.le_of_ble_eq_true rfl) fl_RX9_47 dX9_init_148 rfl rfl ?_
  refine k_iload_n (pc' := 152) dX9_init_151 rfl ?_
  refine k_new (pc' := 155) (ty := tyX1) (fs := [.int 0, .int 0, .int 0, .null]) clX1 dX9_init_152 tw_174 tw_295 tw_107 (fun j hj => by have h : j = 0 ∨ j = 1 ∨ j = 2 ∨ j = 3 := (by omega); rcases h with rfl | rfl | rfl | rfl <;> rfl) ⟨by decide, by decide⟩ (fun q55 => ?_)
  refine k_dup (pc' := 156) dX9_init_155 rfl ?_
  refine k_callI (ν := mX1_init) (pc' := 159) dX9_init_156 ml_RX9_86 mo_X1_init mc_X1_init rfl (i_X1 (G := G) (X := X ++ ((b, .inr (9, [.ref q1, .ref q3, .ref q5, .ref q8, .ref q26, .ref q28, .int (nI 0), .ref q31, .ref q32, .ref q34, .ref q36, .ref q44, .ref q48])) :: (R6 ++ ((q31, .inl (G.2.2.1 4, 6, .inr (.inr (.inr (.inr (va_up (fun _ => none) (nI 0).toNatClampNeg (some q53))))))) :: R12)))) (b := q55)) (by decide) rfl rfl (Nat.le_of_ble_eq_true rfl) (Nat.le_of_ble_eq_true rfl) ⟨by decide, by decide⟩ (fun v ws' h => ?_)
  obtain ⟨rfl, q56, rfl⟩ := h
  rw [List.append_assoc]
  rw [List.cons_append, List.append_assoc, List.cons_append]
  show Ok G _ _ _ _ _ _ _ _ (X ++ ((b, .inr (9, [.ref q1, .ref q3, .ref q5, .ref q8, .ref q26, .ref q28, .int (nI 0), .ref q31, .ref q32, .ref q34, .ref q36, .ref q44, .ref q48])) :: (R6 ++ ((q31, .inl (G.2.2.1 4, 6, .inr (.inr (.inr (.inr (va_up (fun _ => none) (nI 0).toNatClampNeg (some q53))))))) :: (R12 ++ ((q55, .inr (1, [.int (nI 0), .int (nI 0), .int (nI 0), .ref q56])) :: [(q56, .inl (G.2.2.1 0, 20, .inl (fun _ => 0)))])))))) _ _
  refine z_astq (pc' := 160) (t0 := 4) dX9_init_159 rfl rfl (fun q => q.elim (by decide) (by decide)) ?_
  show Ok G _ _ _ _ _ _ _ _ (X ++ ((b, .inr (9, [.ref q1, .ref q3, .ref q5, .ref q8, .ref q26, .ref q28, .int (nI 0), .ref q31, .ref q32, .ref q34, .ref q36, .ref q44, .ref q48])) :: (R6 ++ ((q31, .inl (G.2.2.1 4, 6, .inr (.inr (.inr (.inr (va_up (va_up (fun _ => none) (nI 0).toNatClampNeg (some q53)) (nI 1).toNatClampNeg (some q55))))))) :: (R12 ++ bk1 G q55 q56))))) _ _
  obtain ⟨R13, eR13⟩ : ∃ R : va_W, R = R12 ++ bk1 G q55 q56 := ⟨_, rfl⟩
  rw [← eR13]
  refine k_iinc (pc' := 163) (v := nI 2) dX9_init_160 rfl (nI_inc 1) (by decide) rfl ?_
  refine k_goto (tgt := 141) dX9_init_163 rfl ?_
  refine k_iload_n (pc' := 142) dX9_init_141 rfl ?_
  refine k_bipush (pc' := 144) (v := nI 6) dX9_init_142 rfl ?_
  refine k_icmp_ge (pc' := 147) (tgt := 166) dX9_init_144 rfl (fun h => absurd h (by decide)) (fun _ => ?_)
  refine k_aload_n (pc' := 148) dX9_init_147 rfl ?_
  refine y_get (pc' := 151) (q := 0) clX9 (Nat.le_of_ble_eq_true rfl) fl_RX9_47 dX9_init_148 rfl rfl ?_
  refine k_iload_n (pc' := 152) dX9_init_151 rfl ?_
  refine k_new (pc' := 155) (ty := tyX1) (fs := [.int 0, .int 0, .int 0, .null]) clX1 dX9_init_152 tw_174 tw_295 tw_107 (fun j hj => by have h : j = 0 ∨ j = 1 ∨ j = 2 ∨ j = 3 := (by omega); rcases h with rfl | rfl | rfl | rfl <;> rfl) ⟨by decide, by decide⟩ (fun q57 => ?_)
  refine k_dup (pc' := 156) dX9_init_155 rfl ?_
  refine k_callI (ν := mX1_init) (pc' := 159) dX9_init_156 ml_RX9_86 mo_X1_init mc_X1_init rfl (i_X1 (G := G) (X := X ++ ((b, .inr (9, [.ref q1, .ref q3, .ref q5, .ref q8, .ref q26, .ref q28, .int (nI 0), .ref q31, .ref q32, .ref q34, .ref q36, .ref q44, .ref q48])) :: (R6 ++ ((q31, .inl (G.2.2.1 4, 6, .inr (.inr (.inr (.inr (va_up (va_up (fun _ => none) (nI 0).toNatClampNeg (some q53)) (nI 1).toNatClampNeg (some q55))))))) :: R13)))) (b := q57)) (by decide) rfl rfl (Nat.le_of_ble_eq_true rfl) (Nat.le_of_ble_eq_true rfl) ⟨by decide, by decide⟩ (fun v ws' h => ?_)
  obtain ⟨rfl, q58, rfl⟩ := h
  rw [List.append_assoc]
  rw [List.cons_append, List.append_assoc, List.cons_append]
  show Ok G _ _ _ _ _ _ _ _ (X ++ ((b, .inr (9, [.ref q1, .ref q3, .ref q5, .ref q8, .ref q26, .ref q28, .int (nI 0), .ref q31, .ref q32, .ref q34, .ref q36, .ref q44, .ref q48])) :: (R6 ++ ((q31, .inl (G.2.2.1 4, 6, .inr (.inr (.inr (.inr (va_up (va_up (fun _ => none) (nI 0).toNatClampNeg (some q53)) (nI 1).toNatClampNeg (some q55))))))) :: (R13 ++ ((q57, .inr (1, [.int (nI 0), .int (nI 0), .int (nI 0), .ref q58])) :: [(q58, .inl (G.2.2.1 0, 20, .inl (fun _ => 0)))])))))) _ _
  refine z_astq (pc' := 160) (t0 := 4) dX9_init_159 rfl rfl (fun q => q.elim (by decide) (by decide)) ?_
  show Ok G _ _ _ _ _ _ _ _ (X ++ ((b, .inr (9, [.ref q1, .ref q3, .ref q5, .ref q8, .ref q26, .ref q28, .int (nI 0), .ref q31, .ref q32, .ref q34, .ref q36, .ref q44, .ref q48])) :: (R6 ++ ((q31, .inl (G.2.2.1 4, 6, .inr (.inr (.inr (.inr (va_up (va_up (va_up (fun _ => none) (nI 0).toNatClampNeg (some q53)) (nI 1).toNatClampNeg (some q55)) (nI 2).toNatClampNeg (some q57))))))) :: (R13 ++ bk1 G q57 q58))))) _ _
  obtain ⟨R14, eR14⟩ : ∃ R : va_W, R = R13 ++ bk1 G q57 q58 := ⟨_, rfl⟩
  rw [← eR14]
  refine k_iinc (pc' := 163) (v := nI 3) dX9_init_160 rfl (nI_inc 2) (by decide) rfl ?_
  refine k_goto (tgt := 141) dX9_init_163 rfl ?_
  refine k_iload_n (pc' := 142) dX9_init_141 rfl ?_
  refine k_bipush (pc' := 144) (v := nI 6) dX9_init_142 rfl ?_
  refine k_icmp_ge (pc' := 147) (tgt := 166) dX9_init_144 rfl (fun h => absurd h (by decide)) (fun _ => ?_)
  refine k_aload_n (pc' := 148) dX9_init_147 rfl ?_
  refine y_get (pc' := 151) (q := 0) clX9 (Nat.le_of_ble_eq_true rfl) fl_RX9_47 dX9_init_148 rfl rfl ?_
  refine k_iload_n (pc' := 152) dX9_init_151 rfl ?_
  refine k_new (pc' := 155) (ty := tyX1) (fs := [.int 0, .int 0, .int 0, .null]) clX1 dX9_init_152 tw_174 tw_295 tw_107 (fun j hj => by have h : j = 0 ∨ j = 1 ∨ j = 2 ∨ j = 3 := (by omega); rcases h with rfl | rfl | rfl | rfl <;> rfl) ⟨by decide, by decide⟩ (fun q59 => ?_)
  refine k_dup (pc' := 156) dX9_init_155 rfl ?_
  refine k_callI (ν := mX1_init) (pc' := 159) dX9_init_156 ml_RX9_86 mo_X1_init mc_X1_init rfl (i_X1 (G := G) (X := X ++ ((b, .inr (9, [.ref q1, .ref q3, .ref q5, .ref q8, .ref q26, .ref q28, .int (nI 0), .ref q31, .ref q32, .ref q34, .ref q36, .ref q44, .ref q48])) :: (R6 ++ ((q31, .inl (G.2.2.1 4, 6, .inr (.inr (.inr (.inr (va_up (va_up (va_up (fun _ => none) (nI 0).toNatClampNeg (some q53)) (nI 1).toNatClampNeg (some q55)) (nI 2).toNatClampNeg (some q57))))))) :: R14)))) (b := q59)) (by decide) rfl rfl (Nat.le_of_ble_eq_true rfl) (Nat.le_of_ble_eq_true rfl) ⟨by decide, by decide⟩ (fun v ws' h => ?_)
  obtain ⟨rfl, q60, rfl⟩ := h
  rw [List.append_assoc]
  rw [List.cons_append, List.append_assoc, List.cons_append]
  show Ok G _ _ _ _ _ _ _ _ (X ++ ((b, .inr (9, [.ref q1, .ref q3, .ref q5, .ref q8, .ref q26, .ref q28, .int (nI 0), .ref q31, .ref q32, .ref q34, .ref q36, .ref q44, .ref q48])) :: (R6 ++ ((q31, .inl (G.2.2.1 4, 6, .inr (.inr (.inr (.inr (va_up (va_up (va_up (fun _ => none) (nI 0).toNatClampNeg (some q53)) (nI 1).toNatClampNeg (some q55)) (nI 2).toNatClampNeg (some q57))))))) :: (R14 ++ ((q59, .inr (1, [.int (nI 0), .int (nI 0), .int (nI 0), .ref q60])) :: [(q60, .inl (G.2.2.1 0, 20, .inl (fun _ => 0)))])))))) _ _
  refine z_astq (pc' := 160) (t0 := 4) dX9_init_159 rfl rfl (fun q => q.elim (by decide) (by decide)) ?_
  show Ok G _ _ _ _ _ _ _ _ (X ++ ((b, .inr (9, [.ref q1, .ref q3, .ref q5, .ref q8, .ref q26, .ref q28, .int (nI 0), .ref q31, .ref q32, .ref q34, .ref q36, .ref q44, .ref q48])) :: (R6 ++ ((q31, .inl (G.2.2.1 4, 6, .inr (.inr (.inr (.inr (va_up (va_up (va_up (va_up (fun _ => none) (nI 0).toNatClampNeg (some q53)) (nI 1).toNatClampNeg (some q55)) (nI 2).toNatClampNeg (some q57)) (nI 3).toNatClampNeg (some q59))))))) :: (R14 ++ bk1 G q59 q60))))) _ _
  obtain ⟨R15, eR15⟩ : ∃ R : va_W, R = R14 ++ bk1 G q59 q60 := ⟨_, rfl⟩
  rw [← eR15]
  refine k_iinc (pc' := 163) (v := nI 4) dX9_init_160 rfl (nI_inc 3) (by decide) rfl ?_
  refine k_goto (tgt := 141) dX9_init_163 rfl ?_
  refine k_iload_n (pc' := 142) dX9_init_141 rfl ?_
  refine k_bipush (pc' := 144) (v := nI 6) dX9_init_142 rfl ?_
  refine k_icmp_ge (pc' := 147) (tgt := 166) dX9_init_144 rfl (fun h => absurd h (by decide)) (fun _ => ?_)
  refine k_aload_n (pc' := 148) dX9_init_147 rfl ?_
  refine y_get (pc' := 151) (q := 0) clX9 (Nat.le_of_ble_eq_true rfl) fl_RX9_47 dX9_init_148 rfl rfl ?_
  refine k_iload_n (pc' := 152) dX9_init_151 rfl ?_
  refine k_new (pc' := 155) (ty := tyX1) (fs := [.int 0, .int 0, .int 0, .null]) clX1 dX9_init_152 tw_174 tw_295 tw_107 (fun j hj => by have h : j = 0 ∨ j = 1 ∨ j = 2 ∨ j = 3 := (by omega); rcases h with rfl | rfl | rfl | rfl <;> rfl) ⟨by decide, by decide⟩ (fun q61 => ?_)
  refine k_dup (pc' := 156) dX9_init_155 rfl ?_
  refine k_callI (ν := mX1_init) (pc' := 159) dX9_init_156 ml_RX9_86 mo_X1_init mc_X1_init rfl (i_X1 (G := G) (X := X ++ ((b, .inr (9, [.ref q1, .ref q3, .ref q5, .ref q8, .ref q26, .ref q28, .int (nI 0), .ref q31, .ref q32, .ref q34, .ref q36, .ref q44, .ref q48])) :: (R6 ++ ((q31, .inl (G.2.2.1 4, 6, .inr (.inr (.inr (.inr (va_up (va_up (va_up (va_up (fun _ => none) (nI 0).toNatClampNeg (some q53)) (nI 1).toNatClampNeg (some q55)) (nI 2).toNatClampNeg (some q57)) (nI 3).toNatClampNeg (some q59))))))) :: R15)))) (b := q61)) (by decide) rfl rfl (Nat.le_of_ble_eq_true rfl) (Nat.le_of_ble_eq_true rfl) ⟨by decide, by decide⟩ (fun v ws' h => ?_)
  obtain ⟨rfl, q62, rfl⟩ := h
  rw [List.append_assoc]
  rw [List.cons_append, List.append_assoc, List.cons_append]
  show Ok G _ _ _ _ _ _ _ _ (X ++ ((b, .inr (9, [.ref q1, .ref q3, .ref q5, .ref q8, .ref q26, .ref q28, .int (nI 0), .ref q31, .ref q32, .ref q34, .ref q36, .ref q44, .ref q48])) :: (R6 ++ ((q31, .inl (G.2.2.1 4, 6, .inr (.inr (.inr (.inr (va_up (va_up (va_up (va_up (fun _ => none) (nI 0).toNatClampNeg (some q53)) (nI 1).toNatClampNeg (some q55)) (nI 2).toNatClampNeg (some q57)) (nI 3).toNatClampNeg (some q59))))))) :: (R15 ++ ((q61, .inr (1, [.int (nI 0), .int (nI 0), .int (nI 0), .ref q62])) :: [(q62, .inl (G.2.2.1 0, 20, .inl (fun _ => 0)))])))))) _ _
  refine z_astq (pc' := 160) (t0 := 4) dX9_init_159 rfl rfl (fun q => q.elim (by decide) (by decide)) ?_
  show Ok G _ _ _ _ _ _ _ _ (X ++ ((b, .inr (9, [.ref q1, .ref q3, .ref q5, .ref q8, .ref q26, .ref q28, .int (nI 0), .ref q31, .ref q32, .ref q34, .ref q36, .ref q44, .ref q48])) :: (R6 ++ ((q31, .inl (G.2.2.1 4, 6, .inr (.inr (.inr (.inr (va_up (va_up (va_up (va_up (va_up (fun _ => none) (nI 0).toNatClampNeg (some q53)) (nI 1).toNatClampNeg (some q55)) (nI 2).toNatClampNeg (some q57)) (nI 3).toNatClampNeg (some q59)) (nI 4).toNatClampNeg (some q61))))))) :: (R15 ++ bk1 G q61 q62))))) _ _
  obtain ⟨R16, eR16⟩ : ∃ R : va_W, R = R15 ++ bk1 G q61 q62 := ⟨_, rfl⟩
  rw [← eR16]
  refine k_iinc (pc' := 163) (v := nI 5) dX9_init_160 rfl (nI_inc 4) (by decide) rfl ?_
  refine k_goto (tgt := 141) dX9_init_163 rfl ?_
  refine k_iload_n (pc' := 142) dX9_init_141 rfl ?_
  refine k_bipush (pc' := 144) (v := nI 6) dX9_init_142 rfl ?_
  refine k_icmp_ge (pc' := 147) (tgt := 166) dX9_init_144 rfl (fun h => absurd h (by decide)) (fun _ => ?_)
  refine k_aload_n (pc' := 148) dX9_init_147 rfl ?_
  refine y_get (pc' := 151) (q := 0) clX9 (Nat.le_of_ble_eq_true rfl) fl_RX9_47 dX9_init_148 rfl rfl ?_
  refine k_iload_n (pc' := 152) dX9_init_151 rfl ?_
  refine k_new (pc' := 155) (ty := tyX1) (fs := [.int 0, .int 0, .int 0, .null]) clX1 dX9_init_152 tw_174 tw_295 tw_107 (fun j hj => by have h : j = 0 ∨ j = 1 ∨ j = 2 ∨ j = 3 := (by omega); rcases h with rfl | rfl | rfl | rfl <;> rfl) ⟨by decide, by decide⟩ (fun q63 => ?_)
  refine k_dup (pc' := 156) dX9_init_155 rfl ?_
  refine k_callI (ν := mX1_init) (pc' := 159) dX9_init_156 ml_RX9_86 mo_X1_init mc_X1_init rfl (i_X1 (G := G) (X := X ++ ((b, .inr (9, [.ref q1, .ref q3, .ref q5, .ref q8, .ref q26, .ref q28, .int (nI 0), .ref q31, .ref q32, .ref q34, .ref q36, .ref q44, .ref q48])) :: (R6 ++ ((q31, .inl (G.2.2.1 4, 6, .inr (.inr (.inr (.inr (va_up (va_up (va_up (va_up (va_up (fun _ => none) (nI 0).toNatClampNeg (some q53)) (nI 1).toNatClampNeg (some q55)) (nI 2).toNatClampNeg (some q57)) (nI 3).toNatClampNeg (some q59)) (nI 4).toNatClampNeg (some q61))))))) :: R16)))) (b := q63)) (by decide) rfl rfl (Nat.le_of_ble_eq_true rfl) (Nat.le_of_ble_eq_true rfl) ⟨by decide, by decide⟩ (fun v ws' h => ?_)
  obtain ⟨rfl, q64, rfl⟩ := h
  rw [List.append_assoc]
  rw [List.cons_append, List.append_assoc, List.cons_append]
  show Ok G _ _ _ _ _ _ _ _ (X ++ ((b, .inr (9, [.ref q1, .ref q3, .ref q5, .ref q8, .ref q26, .ref q28, .int (nI 0), .ref q31, .ref q32, .ref q34, .ref q36, .ref q44, .ref q48])) :: (R6 ++ ((q31, .inl (G.2.2.1 4, 6, .inr (.inr (.inr (.inr (va_up (va_up (va_up (va_up (va_up (fun _ => none) (nI 0).toNatClampNeg (some q53)) (nI 1).toNatClampNeg (some q55)) (nI 2).toNatClampNeg (some q57)) (nI 3).toNatClampNeg (some q59)) (nI 4).toNatClampNeg (some q61))))))) :: (R16 ++ ((q63, .inr (1, [.int (nI 0), .int (nI 0), .int (nI 0), .ref q64])) :: [(q64, .inl (G.2.2.1 0, 20, .inl (fun _ => 0)))])))))) _ _
  refine z_astq (pc' := 160) (t0 := 4) dX9_init_159 rfl rfl (fun q => q.elim (by decide) (by decide)) ?_
  show Ok G _ _ _ _ _ _ _ _ (X ++ ((b, .inr (9, [.ref q1, .ref q3, .ref q5, .ref q8, .ref q26, .ref q28, .int (nI 0), .ref q31, .ref q32, .ref q34, .ref q36, .ref q44, .ref q48])) :: (R6 ++ ((q31, .inl (G.2.2.1 4, 6, .inr (.inr (.inr (.inr (va_up (va_up (va_up (va_up (va_up (va_up (fun _ => none) (nI 0).toNatClampNeg (some q53)) (nI 1).toNatClampNeg (some q55)) (nI 2).toNatClampNeg (some q57)) (nI 3).toNatClampNeg (some q59)) (nI 4).toNatClampNeg (some q61)) (nI 5).toNatClampNeg (some q63))))))) :: (R16 ++ bk1 G q63 q64))))) _ _
  obtain ⟨R17, eR17⟩ : ∃ R : va_W, R = R16 ++ bk1 G q63 q64 := ⟨_, rfl⟩
  rw [← eR17]
  refine k_iinc (pc' := 163) (v := nI 6) dX9_init_160 rfl (nI_inc 5) (by decide) rfl ?_
  refine k_goto (tgt := 141) dX9_init_163 rfl ?_
  refine k_iload_n (pc' := 142) dX9_init_141 rfl ?_
  refine k_bipush (pc' := 144) (v := nI 6) dX9_init_142 rfl ?_
  refine k_icmp_ge (pc' := 147) (tgt := 166) dX9_init_144 rfl (fun _ => ?_) (fun h => absurd (show nI 6 ≤ nI 6 by decide) h)
  subst eR17
  subst eR16
  subst eR15
  subst eR14
  subst eR13
  subst eR12
  subst eR11
  subst eR10
  subst eR9
  subst eR8
  subst eR7
  subst eR6
  subst eR5
  subst eR4
  subst eR3
  subst eR2
  subst eR1
  exact k_return dX9_init_166 rfl ⟨rfl, q1, q2, q3, q4, q5, q6, q7, q8, q9, q10, q11, q12, q13, q14, q15, q16, q17, q18, q19, q20, q21, q22, q23, q24, q25, q26, q27, q28, q29, q30, q31, q32, q33, q34, q35, q36, q37, q38, q39, q40, q41, q42, r43, q44, q45, q46, q47, q48, q49, r50, q51, q52, q53, q54, q55, q56, q57, q58, q59, q60, q61, q62, q63, q64, rfl⟩
