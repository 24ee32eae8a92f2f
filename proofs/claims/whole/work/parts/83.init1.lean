/-! constructors, by wip/whole/mkinit.py -/
def bk6 (G : GT) (b : Nat) (q1 : Nat) : va_W := [(b, .inr (6, [.int (nI 4), .ref q1])), (q1, .inl (G.2.2.1 0, 15, .inl (fun _ => 0)))]
theorem i_X6 {G : GT} {X : va_W} {b : Nat} : Con G mX6_init 1 1 15 [.ref b] (X ++ [(b, .inr (6, [.int 0, .null]))]) (fun v ws' => v = none ∧ ∃ (q1 : Nat), ws' = X ++ bk6 G b q1) := by
  refine Con.of rfl (Nat.le_of_ble_eq_true rfl) ?_
  refine k_aload_n (pc' := 1) dX6_init_0 rfl ?_
  refine k_obj (pc' := 4) dX6_init_1 tw_124 tw_117 tw_118 (by decide) (Nat.le_of_ble_eq_true rfl) ?_
  refine k_aload_n (pc' := 5) dX6_init_4 rfl ?_
  refine k_iconst (pc' := 6) (v := nI 4) dX6_init_5 rfl ?_
  refine y_put (pc' := 9) (q := 0) clX6 (Nat.le_of_ble_eq_true rfl) fl_RX6_9 dX6_init_6 rfl rfl rfl rfl (Nat.le_of_ble_eq_true rfl) ?_
  refine k_aload_n (pc' := 10) dX6_init_9 rfl ?_
  refine k_bipush (pc' := 12) (v := nI 15) dX6_init_10 rfl ?_
  refine y_newa (pc' := 14) (ty := .int) (t0 := 0) (N' := 15) (a0 := (15, .inl (fun _ => 0))) dX6_init_12 rfl tw_138 rfl (fun _ => rfl) (by decide) rfl (Nat.le_of_ble_eq_true rfl) ⟨by decide, by decide⟩ (fun q1 => ?_)
  show Ok G _ _ _ _ _ _ _ _ (X ++ [(b, .inr (6, [.int (nI 4), .null])), (q1, .inl (G.2.2.1 0, 15, .inl (fun _ => 0)))]) _ _
  refine y_putF (pc' := 17) (k := 1) (q := 0) clX6 (Nat.le_of_ble_eq_true rfl) tw_129 dX6_init_14 rfl rfl rfl rfl rfl rfl (Nat.le_of_ble_eq_true rfl) ?_
  exact k_return dX6_init_17 rfl ⟨rfl, q1, rfl⟩
def bk2 (G : GT) (b : Nat) (q1 : Nat) (q2 : Nat) : va_W := [(b, .inr (2, [.ref q1, .ref q2])), (q1, .inl (G.2.2.1 0, 6, .inl (fun _ => 0))), (q2, .inl (G.2.2.1 0, 6, .inl (fun _ => 0)))]
theorem i_X2 {G : GT} {X : va_W} {b : Nat} : Con G mX2_init 1 2 12 [.ref b] (X ++ [(b, .inr (2, [.null, .null]))]) (fun v ws' => v = none ∧ ∃ (q1 : Nat) (q2 : Nat), ws' = X ++ bk2 G b q1 q2) := by
  refine Con.of rfl (Nat.le_of_ble_eq_true rfl) ?_
  refine k_aload_n (pc' := 1) dX2_init_0 rfl ?_
  refine k_obj (pc' := 4) dX2_init_1 tw_144 tw_117 tw_118 (by decide) (Nat.le_of_ble_eq_true rfl) ?_
  refine k_aload_n (pc' := 5) dX2_init_4 rfl ?_
  refine k_bipush (pc' := 7) (v := nI 6) dX2_init_5 rfl ?_
  refine y_newa (pc' := 9) (ty := .int) (t0 := 0) (N' := 6) (a0 := (6, .inl (fun _ => 0))) dX2_init_7 rfl tw_138 rfl (fun _ => rfl) (by decide) rfl (Nat.le_of_ble_eq_true rfl) ⟨by decide, by decide⟩ (fun q1 => ?_)
  show Ok G _ _ _ _ _ _ _ _ (X ++ [(b, .inr (2, [.null, .null])), (q1, .inl (G.2.2.1 0, 6, .inl (fun _ => 0)))]) _ _
  refine y_putF (pc' := 12) (k := 0) (q := 0) clX2 (Nat.le_of_ble_eq_true rfl) tw_145 dX2_init_9 rfl rfl rfl rfl rfl rfl (Nat.le_of_ble_eq_true rfl) ?_
  refine k_aload_n (pc' := 13) dX2_init_12 rfl ?_
  refine k_bipush (pc' := 15) (v := nI 6) dX2_init_13 rfl ?_
  refine y_newa (pc' := 17) (ty := .int) (t0 := 0) (N' := 6) (a0 := (6, .inl (fun _ => 0))) dX2_init_15 rfl tw_138 rfl (fun _ => rfl) (by decide) rfl (Nat.le_of_ble_eq_true rfl) ⟨by decide, by decide⟩ (fun q2 => ?_)
  show Ok G _ _ _ _ _ _ _ _ (X ++ [(b, .inr (2, [.ref q1, .null])), (q1, .inl (G.2.2.1 0, 6, .inl (fun _ => 0))), (q2, .inl (G.2.2.1 0, 6, .inl (fun _ => 0)))]) _ _
  refine y_putF (pc' := 20) (k := 1) (q := 0) clX2 (Nat.le_of_ble_eq_true rfl) tw_147 dX2_init_17 rfl rfl rfl rfl rfl rfl (Nat.le_of_ble_eq_true rfl) ?_
  exact k_return dX2_init_20 rfl ⟨rfl, q1, q2, rfl⟩
def bk1 (G : GT) (b : Nat) (q1 : Nat) : va_W := [(b, .inr (1, [.int (nI 0), .int (nI 0), .int (nI 0), .ref q1])), (q1, .inl (G.2.2.1 0, 20, .inl (fun _ => 0)))]
theorem i_X1 {G : GT} {X : va_W} {b : Nat} : Con G mX1_init 1 1 20 [.ref b] (X ++ [(b, .inr (1, [.int 0, .int 0, .int 0, .null]))]) (fun v ws' => v = none ∧ ∃ (q1 : Nat), ws' = X ++ bk1 G b q1) := by
  refine Con.of rfl (Nat.le_of_ble_eq_true rfl) ?_
  refine k_aload_n (pc' := 1) dX1_init_0 rfl ?_
  refine k_obj (pc' := 4) dX1_init_1 tw_299 tw_117 tw_118 (by decide) (Nat.le_of_ble_eq_true rfl) ?_
  refine k_aload_n (pc' := 5) dX1_init_4 rfl ?_
  refine k_iconst (pc' := 6) (v := nI 0) dX1_init_5 rfl ?_
  refine y_put (pc' := 9) (q := 0) clX1 (Nat.le_of_ble_eq_true rfl) fl_RX1_9 dX1_init_6 rfl rfl rfl rfl (Nat.le_of_ble_eq_true rfl) ?_
  refine k_aload_n (pc' := 10) dX1_init_9 rfl ?_
  refine k_iconst (pc' := 11) (v := nI 0) dX1_init_10 rfl ?_
  refine y_put (pc' := 14) (q := 0) clX1 (Nat.le_of_ble_eq_true rfl) fl_RX1_15 dX1_init_11 rfl rfl rfl rfl (Nat.le_of_ble_eq_true rfl) ?_
  refine k_aload_n (pc' := 15) dX1_init_14 rfl ?_
  refine k_iconst (pc' := 16) (v := nI 0) dX1_init_15 rfl ?_
  refine y_put (pc' := 19) (q := 0) clX1 (Nat.le_of_ble_eq_true rfl) fl_RX1_18 dX1_init_16 rfl rfl rfl rfl (Nat.le_of_ble_eq_true rfl) ?_
  refine k_aload_n (pc' := 20) dX1_init_19 rfl ?_
  refine k_bipush (pc' := 22) (v := nI 20) dX1_init_20 rfl ?_
  refine y_newa (pc' := 24) (ty := .int) (t0 := 0) (N' := 20) (a0 := (20, .inl (fun _ => 0))) dX1_init_22 rfl tw_138 rfl (fun _ => rfl) (by decide) rfl (Nat.le_of_ble_eq_true rfl) ⟨by decide, by decide⟩ (fun q1 => ?_)
  show Ok G _ _ _ _ _ _ _ _ (X ++ [(b, .inr (1, [.int (nI 0), .int (nI 0), .int (nI 0), .null])), (q1, .inl (G.2.2.1 0, 20, .inl (fun _ => 0)))]) _ _
  refine y_putF (pc' := 27) (k := 3) (q := 0) clX1 (Nat.le_of_ble_eq_true rfl) tw_306 dX1_init_24 rfl rfl rfl rfl rfl rfl (Nat.le_of_ble_eq_true rfl) ?_
  exact k_return dX1_init_27 rfl ⟨rfl, q1, rfl⟩
def bk7 (G : GT) (b : Nat) (q1 : Nat) : va_W := [(b, .inr (7, [.ref q1, .int (nI 0), .int (nI 0)])), (q1, .inl (G.2.2.1 0, 80, .inl (fun _ => 0)))]
theorem i_X7 {G : GT} {X : va_W} {b : Nat} : Con G mX7_init 1 1 80 [.ref b] (X ++ [(b, .inr (7, [.null, .int 0, .int 0]))]) (fun v ws' => v = none ∧ ∃ (q1 : Nat), ws' = X ++ bk7 G b q1) := by
  refine Con.of rfl (Nat.le_of_ble_eq_true rfl) ?_
  refine k_aload_n (pc' := 1) dX7_init_0 rfl ?_
  refine k_obj (pc' := 4) dX7_init_1 tw_181 tw_117 tw_118 (by decide) (Nat.le_of_ble_eq_true rfl) ?_
  refine k_aload_n (pc' := 5) dX7_init_4 rfl ?_
  refine k_bipush (pc' := 7) (v := nI 80) dX7_init_5 rfl ?_
  refine y_newa (pc' := 9) (ty := .int) (t0 := 0) (N' := 80) (a0 := (80, .inl (fun _ => 0))) dX7_init_7 rfl tw_138 rfl (fun _ => rfl) (by decide) rfl (Nat.le_of_ble_eq_true rfl) ⟨by decide, by decide⟩ (fun q1 => ?_)
  show Ok G _ _ _ _ _ _ _ _ (X ++ [(b, .inr (7, [.null, .int 0, .int 0])), (q1, .inl (G.2.2.1 0, 80, .inl (fun _ => 0)))]) _ _
  refine y_putF (pc' := 12) (k := 0) (q := 0) clX7 (Nat.le_of_ble_eq_true rfl) tw_182 dX7_init_9 rfl rfl rfl rfl rfl rfl (Nat.le_of_ble_eq_true rfl) ?_
  refine k_aload_n (pc' := 13) dX7_init_12 rfl ?_
  refine k_iconst (pc' := 14) (v := nI 0) dX7_init_13 rfl ?_
  refine y_put (pc' := 17) (q := 0) clX7 (Nat.le_of_ble_eq_true rfl) fl_RX7_15 dX7_init_14 rfl rfl rfl rfl (Nat.le_of_ble_eq_true rfl) ?_
  refine k_aload_n (pc' := 18) dX7_init_17 rfl ?_
  refine k_iconst (pc' := 19) (v := nI 0) dX7_init_18 rfl ?_
  refine y_put (pc' := 22) (q := 0) clX7 (Nat.le_of_ble_eq_true rfl) fl_RX7_19 dX7_init_19 rfl rfl rfl rfl (Nat.le_of_ble_eq_true rfl) ?_
  exact k_return dX7_init_22 rfl ⟨rfl, q1, rfl⟩
def bk4 (G : GT) (b : Nat) (q1 : Nat) : va_W := [(b, .inr (4, [.ref q1, .int (nI 0)])), (q1, .inl (G.2.2.1 0, 61, .inl (fun _ => 0)))]
theorem i_X4 {G : GT} {X : va_W} {b : Nat} : Con G mX4_init 1 1 61 [.ref b] (X ++ [(b, .inr (4, [.null, .int 0]))]) (fun v ws' => v = none ∧ ∃ (q1 : Nat), ws' = X ++ bk4 G b q1) := by
  refine Con.of rfl (Nat.le_of_ble_eq_true rfl) ?_
  refine k_aload_n (pc' := 1) dX4_init_0 rfl ?_
  refine k_obj (pc' := 4) dX4_init_1 tw_198 tw_117 tw_118 (by decide) (Nat.le_of_ble_eq_true rfl) ?_
  refine k_aload_n (pc' := 5) dX4_init_4 rfl ?_
  refine k_bipush (pc' := 7) (v := nI 61) dX4_init_5 rfl ?_
  refine y_newa (pc' := 9) (ty := .int) (t0 := 0) (N' := 61) (a0 := (61, .inl (fun _ => 0))) dX4_init_7 rfl tw_138 rfl (fun _ => rfl) (by decide) rfl (Nat.le_of_ble_eq_true rfl) ⟨by decide, by decide⟩ (fun q1 => ?_)
  show Ok G _ _ _ _ _ _ _ _ (X ++ [(b, .inr (4, [.null, .int 0])), (q1, .inl (G.2.2.1 0, 61, .inl (fun _ => 0)))]) _ _
  refine y_putF (pc' := 12) (k := 0) (q := 0) clX4 (Nat.le_of_ble_eq_true rfl) tw_199 dX4_init_9 rfl rfl rfl rfl rfl rfl (Nat.le_of_ble_eq_true rfl) ?_
  refine k_aload_n (pc' := 13) dX4_init_12 rfl ?_
  refine k_iconst (pc' := 14) (v := nI 0) dX4_init_13 rfl ?_
  refine y_put (pc' := 17) (q := 0) clX4 (Nat.le_of_ble_eq_true rfl) fl_RX4_15 dX4_init_14 rfl rfl rfl rfl (Nat.le_of_ble_eq_true rfl) ?_
  exact k_return dX4_init_17 rfl ⟨rfl, q1, rfl⟩
def bk5 (G : GT) (b : Nat) (q1 : Nat) (q2 : Nat) (q3 : Nat) : va_W := [(b, .inr (5, [.ref q1, .ref q2, .ref q3, .int (nI 0), .int (nI 0)])), (q1, .inl (G.2.2.1 0, 32, .inl (fun _ => 0))), (q2, .inl (G.2.2.1 0, 32, .inl (fun _ => 0))), (q3, .inl (G.2.2.1 0, 15, .inl (fun _ => 0)))]
theorem i_X5 {G : GT} {X : va_W} {b : Nat} : Con G mX5_init 1 3 79 [.ref b] (X ++ [(b, .inr (5, [.null, .null, .null, .int 0, .int 0]))]) (fun v ws' => v = none ∧ ∃ (q1 : Nat) (q2 : Nat) (q3 : Nat), ws' = X ++ bk5 G b q1 q2 q3) := by
  refine Con.of rfl (Nat.le_of_ble_eq_true rfl) ?_
  refine k_aload_n (pc' := 1) dX5_init_0 rfl ?_
  refine k_obj (pc' := 4) dX5_init_1 tw_250 tw_117 tw_118 (by decide) (Nat.le_of_ble_eq_true rfl) ?_
  refine k_aload_n (pc' := 5) dX5_init_4 rfl ?_
  refine k_bipush (pc' := 7) (v := nI 32) dX5_init_5 rfl ?_
  refine y_newa (pc' := 9) (ty := .int) (t0 := 0) (N' := 32) (a0 := (32, .inl (fun _ => 0))) dX5_init_7 rfl tw_138 rfl (fun _ => rfl) (by decide) rfl (Nat.le_of_ble_eq_true rfl) ⟨by decide, by decide⟩ (fun q1 => ?_)
  show Ok G _ _ _ _ _ _ _ _ (X ++ [(b, .inr (5, [.null, .null, .null, .int 0, .int 0])), (q1, .inl (G.2.2.1 0, 32, .inl (fun _ => 0)))]) _ _
  refine y_putF (pc' := 12) (k := 0) (q := 0) clX5 (Nat.le_of_ble_eq_true rfl) tw_251 dX5_init_9 rfl rfl rfl rfl rfl rfl (Nat.le_of_ble_eq_true rfl) ?_
  refine k_aload_n (pc' := 13) dX5_init_12 rfl ?_
  refine k_bipush (pc' := 15) (v := nI 32) dX5_init_13 rfl ?_
  refine y_newa (pc' := 17) (ty := .int) (t0 := 0) (N' := 32) (a0 := (32, .inl (fun _ => 0))) dX5_init_15 rfl tw_138 rfl (fun _ => rfl) (by decide) rfl (Nat.le_of_ble_eq_true rfl) ⟨by decide, by decide⟩ (fun q2 => ?_)
  show Ok G _ _ _ _ _ _ _ _ (X ++ [(b, .inr (5, [.ref q1, .null, .null, .int 0, .int 0])), (q1, .inl (G.2.2.1 0, 32, .inl (fun _ => 0))), (q2, .inl (G.2.2.1 0, 32, .inl (fun _ => 0)))]) _ _
  refine y_putF (pc' := 20) (k := 1) (q := 0) clX5 (Nat.le_of_ble_eq_true rfl) tw_253 dX5_init_17 rfl rfl rfl rfl rfl rfl (Nat.le_of_ble_eq_true rfl) ?_
  refine k_aload_n (pc' := 21) dX5_init_20 rfl ?_
  refine k_bipush (pc' := 23) (v := nI 15) dX5_init_21 rfl ?_
  refine y_newa (pc' := 25) (ty := .int) (t0 := 0) (N' := 15) (a0 := (15, .inl (fun _ => 0))) dX5_init_23 rfl tw_138 rfl (fun _ => rfl) (by decide) rfl (Nat.le_of_ble_eq_true rfl) ⟨by decide, by decide⟩ (fun q3 => ?_)
  show Ok G _ _ _ _ _ _ _ _ (X ++ [(b, .inr (5, [.ref q1, .ref q2, .null, .int 0, .int 0])), (q1, .inl (G.2.2.1 0, 32, .inl (fun _ => 0))), (q2, .inl (G.2.2.1 0, 32, .inl (fun _ => 0))), (q3, .inl (G.2.2.1 0, 15, .inl (fun _ => 0)))]) _ _
  refine y_putF (pc' := 28) (k := 2) (q := 0) clX5 (Nat.le_of_ble_eq_true rfl) tw_254 dX5_init_25 rfl rfl rfl rfl rfl rfl (Nat.le_of_ble_eq_true rfl) ?_
  refine k_aload_n (pc' := 29) dX5_init_28 rfl ?_
  refine k_iconst (pc' := 30) (v := nI 0) dX5_init_29 rfl ?_
  refine y_put (pc' := 33) (q := 0) clX5 (Nat.le_of_ble_eq_true rfl) fl_RX5_21 dX5_init_30 rfl rfl rfl rfl (Nat.le_of_ble_eq_true rfl) ?_
  refine k_aload_n (pc' := 34) dX5_init_33 rfl ?_
  refine k_iconst (pc' := 35) (v := nI 0) dX5_init_34 rfl ?_
  refine y_put (pc' := 38) (q := 0) clX5 (Nat.le_of_ble_eq_true rfl) fl_RX5_25 dX5_init_35 rfl rfl rfl rfl (Nat.le_of_ble_eq_true rfl) ?_
  exact k_return dX5_init_38 rfl ⟨rfl, q1, q2, q3, rfl⟩
def bk3 (G : GT) (b : Nat) (q1 : Nat) (r2 : Nat → Nat) (q3 : Nat) (q4 : Nat) : va_W := [(b, .inr (3, [.ref q1, .ref q3, .ref q4, .int (nI 0), .int (nI 0)])), (q1, .inl (G.2.2.1 6, 15, .inr (.inr (.inr (.inr (fun i => if i < 15 then some (r2 i) else none)))))), (r2 0, .inl (G.2.2.1 1, 15, .inr (.inl (fun _ => 0)))), (r2 1, .inl (G.2.2.1 1, 15, .inr (.inl (fun _ => 0)))), (r2 2, .inl (G.2.2.1 1, 15, .inr (.inl (fun _ => 0)))), (r2 3, .inl (G.2.2.1 1, 15, .inr (.inl (fun _ => 0)))), (r2 4, .inl (G.2.2.1 1, 15, .inr (.inl (fun _ => 0)))), (r2 5, .inl (G.2.2.1 1, 15, .inr (.inl (fun _ => 0)))), (r2 6, .inl (G.2.2.1 1, 15, .inr (.inl (fun _ => 0)))), (r2 7, .inl (G.2.2.1 1, 15, .inr (.inl (fun _ => 0)))), (r2 8, .inl (G.2.2.1 1, 15, .inr (.inl (fun _ => 0)))), (r2 9, .inl (G.2.2.1 1, 15, .inr (.inl (fun _ => 0)))), (r2 10, .inl (G.2.2.1 1, 15, .inr (.inl (fun _ => 0)))), (r2 11, .inl (G.2.2.1 1, 15, .inr (.inl (fun _ => 0)))), (r2 12, .inl (G.2.2.1 1, 15, .inr (.inl (fun _ => 0)))), (r2 13, .inl (G.2.2.1 1, 15, .inr (.inl (fun _ => 0)))), (r2 14, .inl (G.2.2.1 1, 15, .inr (.inl (fun _ => 0)))), (q3, .inl (G.2.2.1 1, 15, .inr (.inl (fun _ => 0)))), (q4, .inl (G.2.2.1 2, 15, .inl (fun _ => 0)))]
theorem i_X3 {G : GT} {X : va_W} {b : Nat} : Con G mX3_init 1 18 270 [.ref b] (X ++ [(b, .inr (3, [.null, .null, .null, .int 0, .int 0]))]) (fun v ws' => v = none ∧ ∃ (q1 : Nat) (r2 : Nat → Nat) (q3 : Nat) (q4 : Nat), ws' = X ++ bk3 G b q1 r2 q3 q4) := by
  refine Con.of rfl (Nat.le_of_ble_eq_true rfl) ?_
  refine k_aload_n (pc' := 1) dX3_init_0 rfl ?_
  refine k_obj (pc' := 4) dX3_init_1 tw_273 tw_117 tw_118 (by decide) (Nat.le_of_ble_eq_true rfl) ?_
  refine k_aload_n (pc' := 5) dX3_init_4 rfl ?_
  refine k_bipush (pc' := 7) (v := nI 15) dX3_init_5 rfl ?_
  refine k_bipush (pc' := 9) (v := nI 15) dX3_init_7 rfl ?_
  refine k_mna (pc' := 13) (ty := .long) (t0 := 6) (t1 := 1) (N' := 15) (K' := 15) (z := (15, .inr (.inl (fun _ => 0)))) dX3_init_9 tw_274 tw_275 tw_293 rfl (fun U h => (h.2 1 _ rfl).2) (by decide) (by decide) rfl rfl (Nat.le_of_ble_eq_true rfl) (Nat.le_of_ble_eq_true rfl) (Nat.le_of_ble_eq_true rfl) rfl rfl (fun c => by show ({cls := c, slots := Array.replicate 15 _, vm := .none} : Cell) = _; rw [arrV_new]; rfl) ⟨by decide, by decide⟩ (fun q1 r2 => ?_)
  rw [List.append_assoc, List.append_assoc]
  show Ok G _ _ _ _ _ _ _ _ (X ++ [(b, .inr (3, [.null, .null, .null, .int 0, .int 0])), (q1, .inl (G.2.2.1 6, 15, .inr (.inr (.inr (.inr (fun i => if i < 15 then some (r2 i) else none)))))), (r2 0, .inl (G.2.2.1 1, 15, .inr (.inl (fun _ => 0)))), (r2 1, .inl (G.2.2.1 1, 15, .inr (.inl (fun _ => 0)))), (r2 2, .inl (G.2.2.1 1, 15, .inr (.inl (fun _ => 0)))), (r2 3, .inl (G.2.2.1 1, 15, .inr (.inl (fun _ => 0)))), (r2 4, .inl (G.2.2.1 1, 15, .inr (.inl (fun _ => 0)))), (r2 5, .inl (G.2.2.1 1, 15, .inr (.inl (fun _ => 0)))), (r2 6, .inl (G.2.2.1 1, 15, .inr (.inl (fun _ => 0)))), (r2 7, .inl (G.2.2.1 1, 15, .inr (.inl (fun _ => 0)))), (r2 8, .inl (G.2.2.1 1, 15, .inr (.inl (fun _ => 0)))), (r2 9, .inl (G.2.2.1 1, 15, .inr (.inl (fun _ => 0)))), (r2 10, .inl (G.2.2.1 1, 15, .inr (.inl (fun _ => 0)))), (r2 11, .inl (G.2.2.1 1, 15, .inr (.inl (fun _ => 0)))), (r2 12, .inl (G.2.2.1 1, 15, .inr (.inl (fun _ => 0)))), (r2 13, .inl (G.2.2.1 1, 15, .inr (.inl (fun _ => 0)))), (r2 14, .inl (G.2.2.1 1, 15, .inr (.inl (fun _ => 0))))]) _ _
  refine y_putF (pc' := 16) (k := 0) (q := 0) clX3 (Nat.le_of_ble_eq_true rfl) tw_276 dX3_init_13 rfl rfl rfl rfl rfl rfl (Nat.le_of_ble_eq_true rfl) ?_
  refine k_aload_n (pc' := 17) dX3_init_16 rfl ?_
  refine k_bipush (pc' := 19) (v := nI 15) dX3_init_17 rfl ?_
  refine y_newa (pc' := 21) (ty := .long) (t0 := 1) (N' := 15) (a0 := (15, .inr (.inl (fun _ => 0)))) dX3_init_19 rfl tw_293 rfl (fun _ => rfl) (by decide) rfl (Nat.le_of_ble_eq_true rfl) ⟨by decide, by decide⟩ (fun q3 => ?_)
  show Ok G _ _ _ _ _ _ _ _ (X ++ [(b, .inr (3, [.ref q1, .null, .null, .int 0, .int 0])), (q1, .inl (G.2.2.1 6, 15, .inr (.inr (.inr (.inr (fun i => if i < 15 then some (r2 i) else none)))))), (r2 0, .inl (G.2.2.1 1, 15, .inr (.inl (fun _ => 0)))), (r2 1, .inl (G.2.2.1 1, 15, .inr (.inl (fun _ => 0)))), (r2 2, .inl (G.2.2.1 1, 15, .inr (.inl (fun _ => 0)))), (r2 3, .inl (G.2.2.1 1, 15, .inr (.inl (fun _ => 0)))), (r2 4, .inl (G.2.2.1 1, 15, .inr (.inl (fun _ => 0)))), (r2 5, .inl (G.2.2.1 1, 15, .inr (.inl (fun _ => 0)))), (r2 6, .inl (G.2.2.1 1, 15, .inr (.inl (fun _ => 0)))), (r2 7, .inl (G.2.2.1 1, 15, .inr (.inl (fun _ => 0)))), (r2 8, .inl (G.2.2.1 1, 15, .inr (.inl (fun _ => 0)))), (r2 9, .inl (G.2.2.1 1, 15, .inr (.inl (fun _ => 0)))), (r2 10, .inl (G.2.2.1 1, 15, .inr (.inl (fun _ => 0)))), (r2 11, .inl (G.2.2.1 1, 15, .inr (.inl (fun _ => 0)))), (r2 12, .inl (G.2.2.1 1, 15, .inr (.inl (fun _ => 0)))), (r2 13, .inl (G.2.2.1 1, 15, .inr (.inl (fun _ => 0)))), (r2 14, .inl (G.2.2.1 1, 15, .inr (.inl (fun _ => 0)))), (q3, .inl (G.2.2.1 1, 15, .inr (.inl (fun _ => 0))))]) _ _
  refine y_putF (pc' := 24) (k := 1) (q := 0) clX3 (Nat.le_of_ble_eq_true rfl) tw_277 dX3_init_21 rfl rfl rfl rfl rfl rfl (Nat.le_of_ble_eq_true rfl) ?_
  refine k_aload_n (pc' := 25) dX3_init_24 rfl ?_
  refine k_bipush (pc' := 27) (v := nI 15) dX3_init_25 rfl ?_
  refine y_newa (pc' := 29) (ty := .boolean) (t0 := 2) (N' := 15) (a0 := (15, .inl (fun _ => 0))) dX3_init_27 rfl tw_294 rfl (fun _ => rfl) (by decide) rfl (Nat.le_of_ble_eq_true rfl) ⟨by decide, by decide⟩ (fun q4 => ?_)
  show Ok G _ _ _ _ _ _ _ _ (X ++ [(b, .inr (3, [.ref q1, .ref q3, .null, .int 0, .int 0])), (q1, .inl (G.2.2.1 6, 15, .inr (.inr (.inr (.inr (fun i => if i < 15 then some (r2 i) else none)))))), (r2 0, .inl (G.2.2.1 1, 15, .inr (.inl (fun _ => 0)))), (r2 1, .inl (G.2.2.1 1, 15, .inr (.inl (fun _ => 0)))), (r2 2, .inl (G.2.2.1 1, 15, .inr (.inl (fun _ => 0)))), (r2 3, .inl (G.2.2.1 1, 15, .inr (.inl (fun _ => 0)))), (r2 4, .inl (G.2.2.1 1, 15, .inr (.inl (fun _ => 0)))), (r2 5, .inl (G.2.2.1 1, 15, .inr (.inl (fun _ => 0)))), (r2 6, .inl (G.2.2.1 1, 15, .inr (.inl (fun _ => 0)))), (r2 7, .inl (G.2.2.1 1, 15, .inr (.inl (fun _ => 0)))), (r2 8, .inl (G.2.2.1 1, 15, .inr (.inl (fun _ => 0)))), (r2 9, .inl (G.2.2.1 1, 15, .inr (.inl (fun _ => 0)))), (r2 10, .inl (G.2.2.1 1, 15, .inr (.inl (fun _ => 0)))), (r2 11, .inl (G.2.2.1 1, 15, .inr (.inl (fun _ => 0)))), (r2 12, .inl (G.2.2.1 1, 15, .inr (.inl (fun _ => 0)))), (r2 13, .inl (G.2.2.1 1, 15, .inr (.inl (fun _ => 0)))), (r2 14, .inl (G.2.2.1 1, 15, .inr (.inl (fun _ => 0)))), (q3, .inl (G.2.2.1 1, 15, .inr (.inl (fun _ => 0)))), (q4, .inl (G.2.2.1 2, 15, .inl (fun _ => 0)))]) _ _
  refine y_putF (pc' := 32) (k := 2) (q := 0) clX3 (Nat.le_of_ble_eq_true rfl) tw_278 dX3_init_29 rfl rfl rfl rfl rfl rfl (Nat.le_of_ble_eq_true rfl) ?_
  refine k_aload_n (pc' := 33) dX3_init_32 rfl ?_
  refine k_iconst (pc' := 34) (v := nI 0) dX3_init_33 rfl ?_
  refine y_put (pc' := 37) (q := 0) clX3 (Nat.le_of_ble_eq_true rfl) fl_RX3_24 dX3_init_34 rfl rfl rfl rfl (Nat.le_of_ble_eq_true rfl) ?_
  refine k_aload_n (pc' := 38) dX3_init_37 rfl ?_
  refine k_iconst (pc' := 39) (v := nI 0) dX3_init_38 rfl ?_
  refine y_put (pc' := 42) (q := 0) clX3 (Nat.le_of_ble_eq_true rfl) fl_RX3_28 dX3_init_39 rfl rfl rfl rfl (Nat.le_of_ble_eq_true rfl) ?_
  exact k_return dX3_init_42 rfl ⟨rfl, q1, r2, q3, q4, rfl⟩
def bk8 (G : GT) (b : Nat) (q1 : Nat) (q2 : Nat) (q3 : Nat) (q4 : Nat) (q5 : Nat) (q6 : Nat) (r7 : Nat → Nat) : va_W := [(b, .inr (8, [.ref q1, .int (nI 0), .int (nI 0), .int (nI 0), .ref q3, .ref q4, .ref q5, .ref q6])), (q1, .inr (6, [.int (nI 4), .ref q2])), (q2, .inl (G.2.2.1 0, 15, .inl (fun _ => 0))), (q3, .inl (G.2.2.1 0, 6, .inl (fun _ => 0))), (q4, .inl (G.2.2.1 0, 7, .inl (fun _ => 0))), (q5, .inl (G.2.2.1 0, 7, .inl (fun _ => 0))), (q6, .inl (G.2.2.1 5, 6, .inr (.inr (.inr (.inr (fun i => if i < 6 then some (r7 i) else none)))))), (r7 0, .inl (G.2.2.1 0, 6, .inl (fun _ => 0))), (r7 1, .inl (G.2.2.1 0, 6, .inl (fun _ => 0))), (r7 2, .inl (G.2.2.1 0, 6, .inl (fun _ => 0))), (r7 3, .inl (G.2.2.1 0, 6, .inl (fun _ => 0))), (r7 4, .inl (G.2.2.1 0, 6, .inl (fun _ => 0))), (r7 5, .inl (G.2.2.1 0, 6, .inl (fun _ => 0)))]
theorem i_X8 {G : GT} {X : va_W} {b : Nat} : Con G mX8_init 2 12 79 [.ref b] (X ++ [(b, .inr (8, [.null, .int 0, .int 0, .int 0, .null, .null, .null, .null]))]) (fun v ws' => v = none ∧ ∃ (q1 : Nat) (q2 : Nat) (q3 : Nat) (q4 : Nat) (q5 : Nat) (q6 : Nat) (r7 : Nat → Nat), ws' = X ++ bk8 G b q1 q2 q3 q4 q5 q6 r7) := by
  refine Con.of rfl (Nat.le_of_ble_eq_true rfl) ?_
  refine k_aload_n (pc' := 1) dX8_init_0 rfl ?_
  refine k_obj (pc' := 4) dX8_init_1 tw_213 tw_117 tw_118 (by decide) (Nat.le_of_ble_eq_true rfl) ?_
  refine k_aload_n (pc' := 5) dX8_init_4 rfl ?_
  refine k_new (pc' := 8) (ty := tyX6) (fs := [.int 0, .null]) clX6 dX8_init_5 tw_214 tw_120 tw_99 (fun j hj => by have h : j = 0 ∨ j = 1 := (by omega); rcases h with rfl | rfl <;> rfl) ⟨by decide, by decide⟩ (fun q1 => ?_)
  refine k_dup (pc' := 9) dX8_init_8 rfl ?_
  refine k_callI (ν := mX6_init) (pc' := 12) dX8_init_9 ml_RX8_11 mo_X6_init mc_X6_init rfl (i_X6 (G := G) (X := X ++ [(b, .inr (8, [.null, .int 0, .int 0, .int 0, .null, .null, .null, .null]))]) (b := q1)) (by decide) rfl rfl (Nat.le_of_ble_eq_true rfl) (Nat.le_of_ble_eq_true rfl) ⟨by decide, by decide⟩ (fun v ws' h => ?_)
  obtain ⟨rfl, q2, rfl⟩ := h
  rw [List.append_assoc]
  show Ok G _ _ _ _ _ _ _ _ (X ++ [(b, .inr (8, [.null, .int 0, .int 0, .int 0, .null, .null, .null, .null])), (q1, .inr (6, [.int (nI 4), .ref q2])), (q2, .inl (G.2.2.1 0, 15, .inl (fun _ => 0)))]) _ _
  refine y_putF (pc' := 15) (k := 0) (q := 0) clX8 (Nat.le_of_ble_eq_true rfl) tw_218 dX8_init_12 rfl rfl rfl rfl rfl rfl (Nat.le_of_ble_eq_true rfl) ?_
  refine k_aload_n (pc' := 16) dX8_init_15 rfl ?_
  refine k_iconst (pc' := 17) (v := nI 0) dX8_init_16 rfl ?_
  refine y_put (pc' := 20) (q := 0) clX8 (Nat.le_of_ble_eq_true rfl) fl_RX8_18 dX8_init_17 rfl rfl rfl rfl (Nat.le_of_ble_eq_true rfl) ?_
  refine k_aload_n (pc' := 21) dX8_init_20 rfl ?_
  refine k_iconst (pc' := 22) (v := nI 0) dX8_init_21 rfl ?_
  refine y_put (pc' := 25) (q := 0) clX8 (Nat.le_of_ble_eq_true rfl) fl_RX8_22 dX8_init_22 rfl rfl rfl rfl (Nat.le_of_ble_eq_true rfl) ?_
  refine k_aload_n (pc' := 26) dX8_init_25 rfl ?_
  refine k_iconst (pc' := 27) (v := nI 0) dX8_init_26 rfl ?_
  refine y_put (pc' := 30) (q := 0) clX8 (Nat.le_of_ble_eq_true rfl) fl_RX8_26 dX8_init_27 rfl rfl rfl rfl (Nat.le_of_ble_eq_true rfl) ?_
  refine k_aload_n (pc' := 31) dX8_init_30 rfl ?_
  refine k_bipush (pc' := 33) (v := nI 6) dX8_init_31 rfl ?_
  refine y_newa (pc' := 35) (ty := .int) (t0 := 0) (N' := 6) (a0 := (6, .inl (fun _ => 0))) dX8_init_33 rfl tw_138 rfl (fun _ => rfl) (by decide) rfl (Nat.le_of_ble_eq_true rfl) ⟨by decide, by decide⟩ (fun q3 => ?_)
  show Ok G _ _ _ _ _ _ _ _ (X ++ [(b, .inr (8, [.ref q1, .int (nI 0), .int (nI 0), .int (nI 0), .null, .null, .null, .null])), (q1, .inr (6, [.int (nI 4), .ref q2])), (q2, .inl (G.2.2.1 0, 15, .inl (fun _ => 0))), (q3, .inl (G.2.2.1 0, 6, .inl (fun _ => 0)))]) _ _
  refine y_putF (pc' := 38) (k := 4) (q := 0) clX8 (Nat.le_of_ble_eq_true rfl) tw_223 dX8_init_35 rfl rfl rfl rfl rfl rfl (Nat.le_of_ble_eq_true rfl) ?_
  refine k_aload_n (pc' := 39) dX8_init_38 rfl ?_
  refine k_bipush (pc' := 41) (v := nI 7) dX8_init_39 rfl ?_
  refine y_newa (pc' := 43) (ty := .int) (t0 := 0) (N' := 7) (a0 := (7, .inl (fun _ => 0))) dX8_init_41 rfl tw_138 rfl (fun _ => rfl) (by decide) rfl (Nat.le_of_ble_eq_true rfl) ⟨by decide, by decide⟩ (fun q4 => ?_)
  show Ok G _ _ _ _ _ _ _ _ (X ++ [(b, .inr (8, [.ref q1, .int (nI 0), .int (nI 0), .int (nI 0), .ref q3, .null, .null, .null])), (q1, .inr (6, [.int (nI 4), .ref q2])), (q2, .inl (G.2.2.1 0, 15, .inl (fun _ => 0))), (q3, .inl (G.2.2.1 0, 6, .inl (fun _ => 0))), (q4, .inl (G.2.2.1 0, 7, .inl (fun _ => 0)))]) _ _
  refine y_putF (pc' := 46) (k := 5) (q := 0) clX8 (Nat.le_of_ble_eq_true rfl) tw_225 dX8_init_43 rfl rfl rfl rfl rfl rfl (Nat.le_of_ble_eq_true rfl) ?_
  refine k_aload_n (pc' := 47) dX8_init_46 rfl ?_
  refine k_bipush (pc' := 49) (v := nI 7) dX8_init_47 rfl ?_
  refine y_newa (pc' := 51) (ty := .int) (t0 := 0) (N' := 7) (a0 := (7, .inl (fun _ => 0))) dX8_init_49 rfl tw_138 rfl (fun _ => rfl) (by decide) rfl (Nat.le_of_ble_eq_true rfl) ⟨by decide, by decide⟩ (fun q5 => ?_)
  show Ok G _ _ _ _ _ _ _ _ (X ++ [(b, .inr (8, [.ref q1, .int (nI 0), .int (nI 0), .int (nI 0), .ref q3, .ref q4, .null, .null])), (q1, .inr (6, [.int (nI 4), .ref q2])), (q2, .inl (G.2.2.1 0, 15, .inl (fun _ => 0))), (q3, .inl (G.2.2.1 0, 6, .inl (fun _ => 0))), (q4, .inl (G.2.2.1 0, 7, .inl (fun _ => 0))), (q5, .inl (G.2.2.1 0, 7, .inl (fun _ => 0)))]) _ _
  refine y_putF (pc' := 54) (k := 6) (q := 0) clX8 (Nat.le_of_ble_eq_true rfl) tw_226 dX8_init_51 rfl rfl rfl rfl rfl rfl (Nat.le_of_ble_eq_true rfl) ?_
  refine k_aload_n (pc' := 55) dX8_init_54 rfl ?_
  refine k_bipush (pc' := 57) (v := nI 6) dX8_init_55 rfl ?_
  refine k_bipush (pc' := 59) (v := nI 6) dX8_init_57 rfl ?_
  refine k_mna (pc' := 63) (ty := .int) (t0 := 5) (t1 := 0) (N' := 6) (K' := 6) (z := (6, .inl (fun _ => 0))) dX8_init_59 tw_216 tw_217 tw_138 rfl (fun U h => (h.2 0 _ rfl).2) (by decide) (by decide) rfl rfl (Nat.le_of_ble_eq_true rfl) (Nat.le_of_ble_eq_true rfl) (Nat.le_of_ble_eq_true rfl) rfl rfl (fun c => by show ({cls := c, slots := Array.replicate 6 _, vm := .none} : Cell) = _; rw [arrV_new]; rfl) ⟨by decide, by decide⟩ (fun q6 r7 => ?_)
  rw [List.append_assoc, List.append_assoc]
  show Ok G _ _ _ _ _ _ _ _ (X ++ [(b, .inr (8, [.ref q1, .int (nI 0), .int (nI 0), .int (nI 0), .ref q3, .ref q4, .ref q5, .null])), (q1, .inr (6, [.int (nI 4), .ref q2])), (q2, .inl (G.2.2.1 0, 15, .inl (fun _ => 0))), (q3, .inl (G.2.2.1 0, 6, .inl (fun _ => 0))), (q4, .inl (G.2.2.1 0, 7, .inl (fun _ => 0))), (q5, .inl (G.2.2.1 0, 7, .inl (fun _ => 0))), (q6, .inl (G.2.2.1 5, 6, .inr (.inr (.inr (.inr (fun i => if i < 6 then some (r7 i) else none)))))), (r7 0, .inl (G.2.2.1 0, 6, .inl (fun _ => 0))), (r7 1, .inl (G.2.2.1 0, 6, .inl (fun _ => 0))), (r7 2, .inl (G.2.2.1 0, 6, .inl (fun _ => 0))), (r7 3, .inl (G.2.2.1 0, 6, .inl (fun _ => 0))), (r7 4, .inl (G.2.2.1 0, 6, .inl (fun _ => 0))), (r7 5, .inl (G.2.2.1 0, 6, .inl (fun _ => 0)))]) _ _
  refine y_putF (pc' := 66) (k := 7) (q := 0) clX8 (Nat.le_of_ble_eq_true rfl) tw_227 dX8_init_63 rfl rfl rfl rfl rfl rfl (Nat.le_of_ble_eq_true rfl) ?_
  exact k_return dX8_init_66 rfl ⟨rfl, q1, q2, q3, q4, q5, q6, r7, rfl⟩
