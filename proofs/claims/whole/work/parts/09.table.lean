/-! Table: N and the distances by pairs -/
/-- the place of a pair -/
def pI (N i j : Nat) : Nat := if i < j then i * (2 * N - i - 1) / 2 + j - i - 1 else j * (2 * N - j - 1) / 2 + i - j - 1
def pN (N : Nat) : Nat := N * (N - 1) / 2
theorem pI_lt0 : ∀ N, N < 7 → ∀ i, i < N → ∀ j, j < N → i ≠ j → pI N i j < pN N ∧ pN N ≤ 15 := by decide +kernel
theorem pI_lt {N i j : Nat} (hN : N ≤ 6) (hi : i < N) (hj : j < N) (h : i ≠ j) : pI N i j < 15 := by have := pI_lt0 N (by omega) i hi j hj h; omega
theorem pN_le0 : ∀ N, N < 7 → pN N ≤ 15 := by decide +kernel
theorem pN_le {N : Nat} (hN : N ≤ 6) : pN N ≤ 15 := pN_le0 N (by omega)
/-- the distance of two points -/
def dT (N : Nat) (far : Nat → Int32) (i j : Nat) : Int32 := if i < N ∧ j < N ∧ i ≠ j then far (pI N i j) else 0
def isT (G : GT) (σ : Sto) (t N : Nat) (far : Nat → Int32) : Prop := t < kW ∧ t + 1 < kW ∧ σ t = ob 6 [.int (nI N), .ref (adr G (t + 1))] ∧ σ (t + 1) = aI G 15 far ∧ 2 ≤ N ∧ N ≤ 6
section TABLE
variable {G : GT} {σ : Sto} {t N : Nat} {far : Nat → Int32}
theorem c_pairCount (h : isT G σ t N far) : ConP G mX6_pairCount 1 [.ref (adr G t)] σ (rI (nI (pN N)) σ) := by
  obtain ⟨ht, ht1, h0, h1, hN, hN6⟩ := h
  refine ConP.of rfl (Nat.le_of_ble_eq_true rfl) ?_
  refine k_aload_n (pc' := 1) dX6_pairCount_0 rfl ?_
  refine p_get (pc' := 4) clX6 (Nat.le_of_ble_eq_true rfl) fl_RX6_9 dX6_pairCount_1 (by first | assumption | decide | omega) (by assumption) rfl ?_
  refine k_aload_n (pc' := 5) dX6_pairCount_4 rfl ?_
  refine p_get (pc' := 8) clX6 (Nat.le_of_ble_eq_true rfl) fl_RX6_9 dX6_pairCount_5 (by first | assumption | decide | omega) (by assumption) rfl ?_
  refine k_iconst (pc' := 9) (v := nI 1) dX6_pairCount_8 rfl ?_
  refine k_isub (pc' := 10) (v := nI (N - 1)) dX6_pairCount_9 (pk_sub (by omega)) ?_
  refine k_imul (pc' := 11) (v := nI (N * (N - 1))) dX6_pairCount_10 (pk_mul _ _) ?_
  refine k_iconst (pc' := 12) (v := nI 2) dX6_pairCount_11 rfl ?_
  refine k_idiv (pc' := 13) (v := nI (pN N)) dX6_pairCount_12 (by decide) (pk_div (by have : N * (N - 1) ≤ 6 * 5 := Nat.mul_le_mul hN6 (by omega); omega) (by decide) (by decide)) ?_
  refine p_ireturn dX6_pairCount_13 rfl ?_
  exact ⟨rfl, rfl⟩
theorem c_hasPoint (h : isT G σ t N far) (x : Int32) : ConP G mX6_hasPoint 1 [.ref (adr G t), .int x] σ (rI (bI (0 ≤ x.toInt ∧ x.toInt < N)) σ) := by
  obtain ⟨ht, ht1, h0, h1, hN, hN6⟩ := h
  refine ConP.of rfl (Nat.le_of_ble_eq_true rfl) ?_
  refine k_iload_n (pc' := 1) dX6_hasPoint_0 rfl ?_
  refine k_if_lt (tgt := 16) (pc' := 4) dX6_hasPoint_1 rfl (fun c_1 => ?_) (fun c_1 => ?_)
  · rw [iLt, i0] at c_1
    refine k_iconst (pc' := 17) (v := nI 0) dX6_hasPoint_16 rfl ?_
    refine p_zreturn dX6_hasPoint_17 rfl (by first | exact Or.inl rfl | exact Or.inr rfl) ?_
    exact ⟨by rw [bI_f (by omega)]; rfl, rfl⟩
  · rw [iLt, i0] at c_1
    refine k_iload_n (pc' := 5) dX6_hasPoint_4 rfl ?_
    refine k_aload_n (pc' := 6) dX6_hasPoint_5 rfl ?_
    refine p_get (pc' := 9) clX6 (Nat.le_of_ble_eq_true rfl) fl_RX6_9 dX6_hasPoint_6 (by first | assumption | decide | omega) (by assumption) rfl ?_
    refine k_icmp_ge (tgt := 16) (pc' := 12) dX6_hasPoint_9 rfl (fun c_9 => ?_) (fun c_9 => ?_)
    · rw [iLe, nI_e (by omega)] at c_9
      refine k_iconst (pc' := 17) (v := nI 0) dX6_hasPoint_16 rfl ?_
      refine p_zreturn dX6_hasPoint_17 rfl (by first | exact Or.inl rfl | exact Or.inr rfl) ?_
      exact ⟨by rw [bI_f (by omega)]; rfl, rfl⟩
    · rw [iLe, nI_e (by omega)] at c_9
      refine k_iconst (pc' := 13) (v := nI 1) dX6_hasPoint_12 rfl ?_
      refine k_goto (tgt := 17) dX6_hasPoint_13 rfl ?_
      refine p_zreturn dX6_hasPoint_17 rfl (by first | exact Or.inl rfl | exact Or.inr rfl) ?_
      exact ⟨by rw [bI_t (by omega)]; rfl, rfl⟩
/-- two ints that are unlike points -/
def okPr (N : Nat) (x y : Int32) : Prop := 0 ≤ x.toInt ∧ x.toInt < N ∧ 0 ≤ y.toInt ∧ y.toInt < N ∧ x ≠ y
theorem c_hasPair (h : isT G σ t N far) (x y : Int32) : ConP G mX6_hasPair 1 [.ref (adr G t), .int x, .int y] σ (rI (bI (0 ≤ x.toInt ∧ x.toInt < N ∧ 0 ≤ y.toInt ∧ y.toInt < N ∧ x ≠ y)) σ) := by
  obtain ⟨ht, ht1, h0, h1, hN, hN6⟩ := h
  have bad : ∀ st, ¬ (0 ≤ x.toInt ∧ x.toInt < N ∧ 0 ≤ y.toInt ∧ y.toInt < N ∧ x ≠ y) → OkP G mX6_hasPair 1 (rI (bI (0 ≤ x.toInt ∧ x.toInt < N ∧ 0 ≤ y.toInt ∧ y.toInt < N ∧ x ≠ y)) σ) 33 st [] σ := by
    intro st hb
    refine k_iconst (pc' := 34) (v := nI 0) dX6_hasPair_33 rfl ?_
    refine p_zreturn dX6_hasPair_34 rfl (by first | exact Or.inl rfl | exact Or.inr rfl) ?_
    exact ⟨by rw [bI_f hb]; rfl, rfl⟩
  refine ConP.of rfl (Nat.le_of_ble_eq_true rfl) ?_
  refine k_iload_n (pc' := 1) dX6_hasPair_0 rfl ?_
  refine k_if_lt (tgt := 33) (pc' := 4) dX6_hasPair_1 rfl (fun c_1 => ?_) (fun c_1 => ?_)
  · rw [iLt, i0] at c_1
    exact bad _ (by omega)
  rw [iLt, i0] at c_1
  refine k_iload_n (pc' := 5) dX6_hasPair_4 rfl ?_
  refine k_aload_n (pc' := 6) dX6_hasPair_5 rfl ?_
  refine p_get (pc' := 9) clX6 (Nat.le_of_ble_eq_true rfl) fl_RX6_9 dX6_hasPair_6 (by first | assumption | decide | omega) (by assumption) rfl ?_
  refine k_icmp_ge (tgt := 33) (pc' := 12) dX6_hasPair_9 rfl (fun c_9 => ?_) (fun c_9 => ?_)
  · rw [iLe, nI_e (by omega)] at c_9
    exact bad _ (by omega)
  rw [iLe, nI_e (by omega)] at c_9
  refine k_iload_n (pc' := 13) dX6_hasPair_12 rfl ?_
  refine k_if_lt (tgt := 33) (pc' := 16) dX6_hasPair_13 rfl (fun c_13 => ?_) (fun c_13 => ?_)
  · rw [iLt, i0] at c_13
    exact bad _ (by omega)
  rw [iLt, i0] at c_13
  refine k_iload_n (pc' := 17) dX6_hasPair_16 rfl ?_
  refine k_aload_n (pc' := 18) dX6_hasPair_17 rfl ?_
  refine p_get (pc' := 21) clX6 (Nat.le_of_ble_eq_true rfl) fl_RX6_9 dX6_hasPair_18 (by first | assumption | decide | omega) (by assumption) rfl ?_
  refine k_icmp_ge (tgt := 33) (pc' := 24) dX6_hasPair_21 rfl (fun c_21 => ?_) (fun c_21 => ?_)
  · rw [iLe, nI_e (by omega)] at c_21
    exact bad _ (by omega)
  rw [iLe, nI_e (by omega)] at c_21
  refine k_iload_n (pc' := 25) dX6_hasPair_24 rfl ?_
  refine k_iload_n (pc' := 26) dX6_hasPair_25 rfl ?_
  refine k_icmp_eq (tgt := 33) (pc' := 29) dX6_hasPair_26 rfl (fun c_26 => ?_) (fun c_26 => ?_)
  · exact bad _ (fun z => z.2.2.2.2 c_26)
  refine k_iconst (pc' := 30) (v := nI 1) dX6_hasPair_29 rfl ?_
  refine k_goto (tgt := 34) dX6_hasPair_30 rfl ?_
  refine p_zreturn dX6_hasPair_34 rfl (by first | exact Or.inl rfl | exact Or.inr rfl) ?_
  exact ⟨by rw [bI_t ⟨by omega, by omega, by omega, by omega, c_26⟩]; rfl, rfl⟩
theorem c_pairOf (h : isT G σ t N far) {i j : Nat} (hi : i < N) (hj : j < N) (hij : i ≠ j) : ConP G mX6_pairOf 1 [.ref (adr G t), .int (nI i), .int (nI j)] σ (rI (nI (pI N i j)) σ) := by
  obtain ⟨ht, ht1, h0, h1, hN, hN6⟩ := h
  have fin : ∀ (lo hi2 : Nat) (a b : Option Value), lo < hi2 → hi2 < N → pI N i j = lo * (2 * N - lo - 1) / 2 + hi2 - lo - 1 → OkP G mX6_pairOf 1 (rI (nI (pI N i j)) σ) 23 [some (.ref (adr G t)), a, b, some (.int (nI lo)), some (.int (nI hi2))] [] σ := by
    intro lo hi2 a b h2 h3 e
    have hm : lo * (2 * N - lo - 1) ≤ 6 * 12 := Nat.mul_le_mul (by omega) (by omega)
    refine k_iload_n (pc' := 24) dX6_pairOf_23 rfl ?_
    refine k_iconst (pc' := 25) (v := nI 2) dX6_pairOf_24 rfl ?_
    refine k_aload_n (pc' := 26) dX6_pairOf_25 rfl ?_
    refine p_get (pc' := 29) clX6 (Nat.le_of_ble_eq_true rfl) fl_RX6_9 dX6_pairOf_26 (by first | assumption | decide | omega) (by assumption) rfl ?_
    refine k_imul (pc' := 30) (v := nI (2 * N)) dX6_pairOf_29 (pk_mul _ _) ?_
    refine k_iload_n (pc' := 31) dX6_pairOf_30 rfl ?_
    refine k_isub (pc' := 32) (v := nI (2 * N - lo)) dX6_pairOf_31 (pk_sub (by omega)) ?_
    refine k_iconst (pc' := 33) (v := nI 1) dX6_pairOf_32 rfl ?_
    refine k_isub (pc' := 34) (v := nI (2 * N - lo - 1)) dX6_pairOf_33 (pk_sub (by omega)) ?_
    refine k_imul (pc' := 35) (v := nI (lo * (2 * N - lo - 1))) dX6_pairOf_34 (pk_mul _ _) ?_
    refine k_iconst (pc' := 36) (v := nI 2) dX6_pairOf_35 rfl ?_
    refine k_idiv (pc' := 37) (v := nI (lo * (2 * N - lo - 1) / 2)) dX6_pairOf_36 (by decide) (pk_div (by omega) (by decide) (by decide)) ?_
    refine k_iload (pc' := 39) dX6_pairOf_37 rfl ?_
    refine k_iadd (pc' := 40) (v := nI (lo * (2 * N - lo - 1) / 2 + hi2)) dX6_pairOf_39 (nI_add _ _) ?_
    refine k_iload_n (pc' := 41) dX6_pairOf_40 rfl ?_
    refine k_isub (pc' := 42) (v := nI (lo * (2 * N - lo - 1) / 2 + hi2 - lo)) dX6_pairOf_41 (pk_sub (by omega)) ?_
    refine k_iconst (pc' := 43) (v := nI 1) dX6_pairOf_42 rfl ?_
    refine k_isub (pc' := 44) (v := nI (lo * (2 * N - lo - 1) / 2 + hi2 - lo - 1)) dX6_pairOf_43 (pk_sub (by omega)) ?_
    refine p_ireturn dX6_pairOf_44 rfl ?_
    exact ⟨by rw [e], rfl⟩
  refine ConP.of rfl (Nat.le_of_ble_eq_true rfl) ?_
  by_cases hlt : i < j
  · refine k_iload_n (pc' := 1) dX6_pairOf_0 rfl ?_
    refine k_iload_n (pc' := 2) dX6_pairOf_1 rfl ?_
    refine k_icmp_ge (tgt := 9) (pc' := 5) dX6_pairOf_2 rfl (fun zz_ => absurd zz_ (by rw [nI_leI (by omega) (by omega)]; omega)) (fun _ => ?_)
    refine k_iload_n (pc' := 6) dX6_pairOf_5 rfl ?_
    refine k_goto (tgt := 10) dX6_pairOf_6 rfl ?_
    refine k_istore_n (pc' := 11) dX6_pairOf_10 (Nat.le_of_ble_eq_true rfl) rfl ?_
    refine k_iload_n (pc' := 12) dX6_pairOf_11 rfl ?_
    refine k_iload_n (pc' := 13) dX6_pairOf_12 rfl ?_
    refine k_icmp_ge (tgt := 20) (pc' := 16) dX6_pairOf_13 rfl (fun zz_ => absurd zz_ (by rw [nI_leI (by omega) (by omega)]; omega)) (fun _ => ?_)
    refine k_iload_n (pc' := 17) dX6_pairOf_16 rfl ?_
    refine k_goto (tgt := 21) dX6_pairOf_17 rfl ?_
    refine k_istore (pc' := 23) dX6_pairOf_21 (Nat.le_of_ble_eq_true rfl) rfl ?_
    exact fin i j _ _ hlt hj (by unfold pI; rw [if_pos hlt])
  · refine k_iload_n (pc' := 1) dX6_pairOf_0 rfl ?_
    refine k_iload_n (pc' := 2) dX6_pairOf_1 rfl ?_
    refine k_icmp_ge (tgt := 9) (pc' := 5) dX6_pairOf_2 rfl (fun _ => ?_) (fun zz_ => absurd (nI_le (by omega) (by omega)) zz_)
    refine k_iload_n (pc' := 10) dX6_pairOf_9 rfl ?_
    refine k_istore_n (pc' := 11) dX6_pairOf_10 (Nat.le_of_ble_eq_true rfl) rfl ?_
    refine k_iload_n (pc' := 12) dX6_pairOf_11 rfl ?_
    refine k_iload_n (pc' := 13) dX6_pairOf_12 rfl ?_
    refine k_icmp_ge (tgt := 20) (pc' := 16) dX6_pairOf_13 rfl (fun _ => ?_) (fun zz_ => absurd (nI_le (by omega) (by omega)) zz_)
    refine k_iload_n (pc' := 21) dX6_pairOf_20 rfl ?_
    refine k_istore (pc' := 23) dX6_pairOf_21 (Nat.le_of_ble_eq_true rfl) rfl ?_
    exact fin j i _ _ (by omega) hi (by unfold pI; rw [if_neg hlt])
theorem okPr_nI {N i j : Nat} (hi : i < 2 ^ 31) (hj : j < 2 ^ 31) : (0 ≤ (nI i).toInt ∧ (nI i).toInt < N ∧ 0 ≤ (nI j).toInt ∧ (nI j).toInt < N ∧ nI i ≠ nI j) ↔ (i < N ∧ j < N ∧ i ≠ j) := by
  rw [nI_e hi, nI_e hj, Ne, nI_eq hi hj]
  omega
theorem c_between (h : isT G σ t N far) {i j : Nat} (hi : i < 2 ^ 31) (hj : j < 2 ^ 31) : ConP G mX6_between 2 [.ref (adr G t), .int (nI i), .int (nI j)] σ (rI (dT N far i j) σ) := by
  have hT := h
  obtain ⟨ht, ht1, h0, h1, hN, hN6⟩ := h
  refine ConP.of rfl (Nat.le_of_ble_eq_true rfl) ?_
  by_cases hc : i < N ∧ j < N ∧ i ≠ j
  · refine k_aload_n (pc' := 1) dX6_between_0 rfl ?_
    refine k_iload_n (pc' := 2) dX6_between_1 rfl ?_
    refine k_iload_n (pc' := 3) dX6_between_2 rfl ?_
    refine p_vI (ν := mX6_hasPair) (pc' := 6) dX6_between_3 ml_RX6_23 mo_X6_hasPair mv_X6_hasPair clX6 (Nat.le_of_ble_eq_true rfl) rfl rfl (Nat.le_of_ble_eq_true rfl) (by first | assumption | decide | omega) (by assumption) (by decide) (c_hasPair hT (nI i) (nI j)) ?_
    refine k_if_eq (tgt := 23) (pc' := 9) dX6_between_6 rfl (fun zz_ => absurd zz_ (by rw [bI_eq, okPr_nI hi hj]; exact fun z => z hc)) (fun _ => ?_)
    refine k_aload_n (pc' := 10) dX6_between_9 rfl ?_
    refine p_get (pc' := 13) clX6 (Nat.le_of_ble_eq_true rfl) fl_RX6_15 dX6_between_10 (by first | assumption | decide | omega) (by assumption) rfl ?_
    refine k_aload_n (pc' := 14) dX6_between_13 rfl ?_
    refine k_iload_n (pc' := 15) dX6_between_14 rfl ?_
    refine k_iload_n (pc' := 16) dX6_between_15 rfl ?_
    refine p_vI (ν := mX6_pairOf) (pc' := 19) dX6_between_16 ml_RX6_27 mo_X6_pairOf mv_X6_pairOf clX6 (Nat.le_of_ble_eq_true rfl) rfl rfl (Nat.le_of_ble_eq_true rfl) (by first | assumption | decide | omega) (by assumption) (by decide) (c_pairOf hT hc.1 hc.2.1 hc.2.2) ?_
    refine p_ialdN (pc' := 20) dX6_between_19 (by first | assumption | decide | omega) (by assumption) (by first | decide | omega) (pI_lt hN6 hc.1 hc.2.1 hc.2.2) ?_
    refine k_goto (tgt := 24) dX6_between_20 rfl ?_
    refine p_ireturn dX6_between_24 rfl ?_
    exact ⟨by unfold dT; rw [if_pos hc], rfl⟩
  · refine k_aload_n (pc' := 1) dX6_between_0 rfl ?_
    refine k_iload_n (pc' := 2) dX6_between_1 rfl ?_
    refine k_iload_n (pc' := 3) dX6_between_2 rfl ?_
    refine p_vI (ν := mX6_hasPair) (pc' := 6) dX6_between_3 ml_RX6_23 mo_X6_hasPair mv_X6_hasPair clX6 (Nat.le_of_ble_eq_true rfl) rfl rfl (Nat.le_of_ble_eq_true rfl) (by first | assumption | decide | omega) (by assumption) (by decide) (c_hasPair hT (nI i) (nI j)) ?_
    refine k_if_eq (tgt := 23) (pc' := 9) dX6_between_6 rfl (fun _ => ?_) (fun zz_ => absurd (by rw [bI_eq, okPr_nI hi hj]; exact hc) zz_)
    refine k_iconst (pc' := 24) (v := nI 0) dX6_between_23 rfl ?_
    refine p_ireturn dX6_between_24 rfl ?_
    exact ⟨by unfold dT; rw [if_neg hc]; rfl, rfl⟩
end TABLE
