def lC (N : Nat) : Nat := 2 ^ (N - 1) - 1
theorem lC_sh : ∀ N, N < 7 → 2 ≤ N → nI 1 <<< (nI (N - 1) &&& 31) = nI (2 ^ (N - 1)) := by decide +kernel
theorem lC_ge : ∀ N, N < 7 → 2 ≤ N → 1 ≤ 2 ^ (N - 1) ∧ 2 ^ (N - 1) ≤ 32 := by decide +kernel
theorem lC_le {N : Nat} (h : 2 ≤ N) (h6 : N ≤ 6) : 1 ≤ lC N ∧ lC N ≤ 31 := by
  have := lC_ge N (by omega) h
  have h2 : 2 ^ 1 ≤ 2 ^ (N - 1) := Nat.pow_le_pow_right (by decide) (by omega)
  unfold lC
  omega
/-- the pairs that a cut separates, as bits -/
def pA1 (N : Nat) (x : Int32) (i j : Nat) (a : Int32) : Int32 := a ||| ((x <<< (nI 1 &&& 31) >>> (nI i &&& 31) ^^^ x <<< (nI 1 &&& 31) >>> (nI j &&& 31)) &&& nI 1) <<< (nI (pI N i j) &&& 31)
def pA2 (N : Nat) (x : Int32) (i : Nat) (a : Int32) : Int32 := upn (N - (i + 1)) (i + 1) (pA1 N x i) a
def pA (N : Nat) (x : Int32) : Int32 := upn N 0 (pA2 N x) (nI 0)
/-- all distances together -/
def tot (N : Nat) (far : Nat → Int32) : Int32 := upn (pN N) 0 (fun p a => a + far p) (nI 0)
abbrev inB (N : Nat) (far : Nat → Int32) : Prop := ∀ p, p < pN N → 0 ≤ (far p).toInt ∧ (far p).toInt ≤ 999
def unl (N : Nat) (far far2 : Nat → Int32) : Int32 := upn (pN N) 0 (fun p a => a + (if far p = far2 p then nI 0 else nI 1)) (nI 0)
def sho1 (N s i : Nat) (j : Nat) (far : Nat → Int32) : Nat → Int32 := upd far (pI N i j) (if dT N far i s + dT N far s j < dT N far i j then dT N far i s + dT N far s j else dT N far i j)
def sho2 (N s i : Nat) (far : Nat → Int32) : Nat → Int32 := upn (N - (i + 1)) (i + 1) (sho1 N s i) far
def sho3 (N s : Nat) (far : Nat → Int32) : Nat → Int32 := upn N 0 (sho2 N s) far
def sho (N : Nat) (far : Nat → Int32) : Nat → Int32 := upn N 0 (sho3 N) far
def zf (n : Nat) (far : Nat → Int32) : Nat → Int32 := upn n 0 (fun p f => upd f p (nI 0)) far
def putT (G : GT) (σ : Sto) (t N : Nat) (far : Nat → Int32) : Sto := va_up (va_up σ t (ob 6 [.int (nI N), .ref (adr G (t + 1))])) (t + 1) (aI G 15 far)
section TABLE
variable {G : GT} {σ : Sto} {t N : Nat} {far : Nat → Int32}
theorem putT_t {f : Nat → Int32} : putT G σ t N f t = ob 6 [.int (nI N), .ref (adr G (t + 1))] := by unfold putT; rw [up_n (by omega), up_s]
theorem putT_f {f : Nat → Int32} : putT G σ t N f (t + 1) = aI G 15 f := up_s
theorem putT_n {f : Nat → Int32} {q : Nat} (h : q ≠ t) (h2 : q ≠ t + 1) : putT G σ t N f q = σ q := by unfold putT; rw [up_n h2, up_n h]
theorem putT_o {f f2 : Nat → Int32} {N2 : Nat} : putT G (putT G σ t N f) t N2 f2 = putT G σ t N2 f2 := by
  unfold putT
  rw [up_c (v := aI G 15 f) (by omega), up_up, up_up]
theorem putT_id (h : isT G σ t N far) : putT G σ t N far = σ := by
  obtain ⟨ht, ht1, h0, h1, hN, hN6⟩ := h
  unfold putT
  rw [up_id h0, up_id h1]
theorem putT_T {N2 : Nat} {f : Nat → Int32} (h : isT G σ t N far) (h2 : 2 ≤ N2) (h6 : N2 ≤ 6) : isT G (putT G σ t N2 f) t N2 f := ⟨h.1, h.2.1, putT_t, putT_f, h2, h6⟩
theorem putT_far {N2 t2 : Nat} {f far2 : Nat → Int32} (h : isT G σ t2 N2 far2) (h1 : t2 ≠ t) (h2 : t2 ≠ t + 1) (h3 : t ≠ t2 + 1) {M : Nat} : isT G (putT G σ t M f) t2 N2 far2 := ⟨h.1, h.2.1, (putT_n h1 h2).trans h.2.2.1, (putT_n (fun e => h3 e.symm) (by omega)).trans h.2.2.2.1, h.2.2.2.2⟩
theorem putT_of (h : isT G σ t N far) {N2 : Nat} : va_up σ t (ob 6 [.int (nI N2), .ref (adr G (t + 1))]) = putT G σ t N2 far := by
  unfold putT
  exact (up_id ((up_n (by omega)).trans h.2.2.2.1)).symm
theorem c_lastCut (h : isT G σ t N far) : ConP G mX6_lastCut 1 [.ref (adr G t)] σ (rI (nI (lC N)) σ) := by
  obtain ⟨ht, ht1, h0, h1, hN, hN6⟩ := h
  have hl := lC_ge N (by omega) hN
  refine ConP.of rfl (Nat.le_of_ble_eq_true rfl) ?_
  refine k_iconst (pc' := 1) (v := nI 1) dX6_lastCut_0 rfl ?_
  refine k_aload_n (pc' := 2) dX6_lastCut_1 rfl ?_
  refine p_get (pc' := 5) clX6 (Nat.le_of_ble_eq_true rfl) fl_RX6_9 dX6_lastCut_2 (by first | assumption | decide | omega) (by assumption) rfl ?_
  refine k_iconst (pc' := 6) (v := nI 1) dX6_lastCut_5 rfl ?_
  refine k_isub (pc' := 7) (v := nI (N - 1)) dX6_lastCut_6 (pk_sub (by omega)) ?_
  refine k_ishl (pc' := 8) (v := nI (2 ^ (N - 1))) dX6_lastCut_7 (lC_sh N (by omega) hN) ?_
  refine k_iconst (pc' := 9) (v := nI 1) dX6_lastCut_8 rfl ?_
  refine k_isub (pc' := 10) (v := nI (lC N)) dX6_lastCut_9 (pk_sub (by omega)) ?_
  refine p_ireturn dX6_lastCut_10 rfl ?_
  exact ⟨rfl, rfl⟩
theorem c_hasCut (h : isT G σ t N far) (x : Int32) : ConP G mX6_hasCut 2 [.ref (adr G t), .int x] σ (rI (bI (1 ≤ x.toInt ∧ x.toInt ≤ lC N)) σ) := by
  have hT := h
  obtain ⟨ht, ht1, h0, h1, hN, hN6⟩ := h
  have hl := lC_le hN hN6
  refine ConP.of rfl (Nat.le_of_ble_eq_true rfl) ?_
  refine k_iload_n (pc' := 1) dX6_hasCut_0 rfl ?_
  refine k_iconst (pc' := 2) (v := nI 1) dX6_hasCut_1 rfl ?_
  refine k_icmp_lt (tgt := 17) (pc' := 5) dX6_hasCut_2 rfl (fun c_2 => ?_) (fun c_2 => ?_)
  · rw [iLt, nI_e (by decide)] at c_2
    refine k_iconst (pc' := 18) (v := nI 0) dX6_hasCut_17 rfl ?_
    refine p_zreturn dX6_hasCut_18 rfl (by first | exact Or.inl rfl | exact Or.inr rfl) ?_
    exact ⟨by rw [bI_f (by omega)]; rfl, rfl⟩
  rw [iLt, nI_e (by decide)] at c_2
  refine k_iload_n (pc' := 6) dX6_hasCut_5 rfl ?_
  refine k_aload_n (pc' := 7) dX6_hasCut_6 rfl ?_
  refine p_vI (ν := mX6_lastCut) (pc' := 10) dX6_hasCut_7 ml_RX6_19 mo_X6_lastCut mv_X6_lastCut clX6 (Nat.le_of_ble_eq_true rfl) rfl rfl (Nat.le_of_ble_eq_true rfl) (by first | assumption | decide | omega) (by assumption) (by decide) (c_lastCut hT) ?_
  refine k_icmp_gt (tgt := 17) (pc' := 13) dX6_hasCut_10 rfl (fun c_10 => ?_) (fun c_10 => ?_)
  · rw [iLt, nI_e (by omega)] at c_10
    refine k_iconst (pc' := 18) (v := nI 0) dX6_hasCut_17 rfl ?_
    refine p_zreturn dX6_hasCut_18 rfl (by first | exact Or.inl rfl | exact Or.inr rfl) ?_
    exact ⟨by rw [bI_f (by omega)]; rfl, rfl⟩
  rw [iLt, nI_e (by omega)] at c_10
  refine k_iconst (pc' := 14) (v := nI 1) dX6_hasCut_13 rfl ?_
  refine k_goto (tgt := 18) dX6_hasCut_14 rfl ?_
  refine p_zreturn dX6_hasCut_18 rfl (by first | exact Or.inl rfl | exact Or.inr rfl) ?_
  exact ⟨by rw [bI_t (by omega)]; rfl, rfl⟩
theorem c_pairsApart (h : isT G σ t N far) (x : Int32) : ConP G mX6_pairsApart 2 [.ref (adr G t), .int x] σ (rI (pA N x) σ) := by
  have hT := h
  obtain ⟨ht, ht1, h0, h1, hN, hN6⟩ := h
  refine ConP.of rfl (Nat.le_of_ble_eq_true rfl) ?_
  refine k_iload_n (pc' := 1) dX6_pairsApart_0 rfl ?_
  refine k_iconst (pc' := 2) (v := nI 1) dX6_pairsApart_1 rfl ?_
  refine k_ishl (pc' := 3) dX6_pairsApart_2 rfl ?_
  refine k_istore_n (pc' := 4) dX6_pairsApart_3 (Nat.le_of_ble_eq_true rfl) rfl ?_
  refine k_iconst (pc' := 5) (v := nI 0) dX6_pairsApart_4 rfl ?_
  refine k_istore_n (pc' := 6) dX6_pairsApart_5 (Nat.le_of_ble_eq_true rfl) rfl ?_
  refine k_iconst (pc' := 7) (v := nI 0) dX6_pairsApart_6 rfl ?_
  refine k_istore (pc' := 9) dX6_pairsApart_7 (Nat.le_of_ble_eq_true rfl) rfl ?_
  refine loopU (fun i a => ∀ z, OkP G mX6_pairsApart 2 (rI (pA N x) σ) 9 [some (.ref (adr G t)), some (.int x), some (.int (x <<< (nI 1 &&& 31))), some (.int a), some (.int (nI i)), z] [] σ) (pA2 N x) N 0 N (nI 0) (by omega) ?_ ?_ none
  · intro i a _ hi ih z
    refine k_iload (pc' := 11) dX6_pairsApart_9 rfl ?_
    refine k_aload_n (pc' := 12) dX6_pairsApart_11 rfl ?_
    refine p_get (pc' := 15) clX6 (Nat.le_of_ble_eq_true rfl) fl_RX6_9 dX6_pairsApart_12 (by first | assumption | decide | omega) (by assumption) rfl ?_
    refine k_icmp_ge (tgt := 68) (pc' := 18) dX6_pairsApart_15 rfl (fun zz_ => absurd zz_ (by rw [nI_leI (by omega) (by omega)]; omega)) (fun _ => ?_)
    refine k_iload (pc' := 20) dX6_pairsApart_18 rfl ?_
    refine k_iconst (pc' := 21) (v := nI 1) dX6_pairsApart_20 rfl ?_
    refine k_iadd (pc' := 22) (v := nI (i + 1)) dX6_pairsApart_21 (nI_add _ _) ?_
    refine k_istore (pc' := 24) dX6_pairsApart_22 (Nat.le_of_ble_eq_true rfl) rfl ?_
    refine loopU (fun j a => OkP G mX6_pairsApart 2 (rI (pA N x) σ) 24 [some (.ref (adr G t)), some (.int x), some (.int (x <<< (nI 1 &&& 31))), some (.int a), some (.int (nI i)), some (.int (nI j))] [] σ) (pA1 N x i) N (i + 1) (N - (i + 1)) a (by omega) ?_ ?_
    · intro j b hij hj ih2
      refine k_iload (pc' := 26) dX6_pairsApart_24 rfl ?_
      refine k_aload_n (pc' := 27) dX6_pairsApart_26 rfl ?_
      refine p_get (pc' := 30) clX6 (Nat.le_of_ble_eq_true rfl) fl_RX6_9 dX6_pairsApart_27 (by first | assumption | decide | omega) (by assumption) rfl ?_
      refine k_icmp_ge (tgt := 62) (pc' := 33) dX6_pairsApart_30 rfl (fun zz_ => absurd zz_ (by rw [nI_leI (by omega) (by omega)]; omega)) (fun _ => ?_)
      refine k_iload_n (pc' := 34) dX6_pairsApart_33 rfl ?_
      refine k_iload_n (pc' := 35) dX6_pairsApart_34 rfl ?_
      refine k_iload (pc' := 37) dX6_pairsApart_35 rfl ?_
      refine k_ishr (pc' := 38) dX6_pairsApart_37 rfl ?_
      refine k_iload_n (pc' := 39) dX6_pairsApart_38 rfl ?_
      refine k_iload (pc' := 41) dX6_pairsApart_39 rfl ?_
      refine k_ishr (pc' := 42) dX6_pairsApart_41 rfl ?_
      refine k_ixor (pc' := 43) dX6_pairsApart_42 rfl ?_
      refine k_iconst (pc' := 44) (v := nI 1) dX6_pairsApart_43 rfl ?_
      refine k_iand (pc' := 45) dX6_pairsApart_44 rfl ?_
      refine k_aload_n (pc' := 46) dX6_pairsApart_45 rfl ?_
      refine k_iload (pc' := 48) dX6_pairsApart_46 rfl ?_
      refine k_iload (pc' := 50) dX6_pairsApart_48 rfl ?_
      refine p_vI (ν := mX6_pairOf) (pc' := 53) dX6_pairsApart_50 ml_RX6_27 mo_X6_pairOf mv_X6_pairOf clX6 (Nat.le_of_ble_eq_true rfl) rfl rfl (Nat.le_of_ble_eq_true rfl) (by first | assumption | decide | omega) (by assumption) (by decide) (c_pairOf hT hi hj (by omega)) ?_
      refine k_ishl (pc' := 54) dX6_pairsApart_53 rfl ?_
      refine k_ior (pc' := 55) dX6_pairsApart_54 rfl ?_
      refine k_istore_n (pc' := 56) dX6_pairsApart_55 (Nat.le_of_ble_eq_true rfl) rfl ?_
      refine k_iinc (pc' := 59) (v := nI (j + 1)) dX6_pairsApart_56 rfl (nI_inc _) (Nat.le_of_ble_eq_true rfl) rfl ?_
      refine k_goto (tgt := 24) dX6_pairsApart_59 rfl ?_
      exact ih2
    · refine k_iload (pc' := 26) dX6_pairsApart_24 rfl ?_
      refine k_aload_n (pc' := 27) dX6_pairsApart_26 rfl ?_
      refine p_get (pc' := 30) clX6 (Nat.le_of_ble_eq_true rfl) fl_RX6_9 dX6_pairsApart_27 (by first | assumption | decide | omega) (by assumption) rfl ?_
      refine k_icmp_ge (tgt := 62) (pc' := 33) dX6_pairsApart_30 rfl (fun _ => ?_) (fun zz_ => absurd (nI_le (by omega) (by omega)) zz_)
      refine k_iinc (pc' := 65) (v := nI (i + 1)) dX6_pairsApart_62 rfl (nI_inc _) (Nat.le_of_ble_eq_true rfl) rfl ?_
      refine k_goto (tgt := 9) dX6_pairsApart_65 rfl ?_
      exact ih _
  · intro z
    refine k_iload (pc' := 11) dX6_pairsApart_9 rfl ?_
    refine k_aload_n (pc' := 12) dX6_pairsApart_11 rfl ?_
    refine p_get (pc' := 15) clX6 (Nat.le_of_ble_eq_true rfl) fl_RX6_9 dX6_pairsApart_12 (by first | assumption | decide | omega) (by assumption) rfl ?_
    refine k_icmp_ge (tgt := 68) (pc' := 18) dX6_pairsApart_15 rfl (fun _ => ?_) (fun zz_ => absurd (nI_le (by omega) (by omega)) zz_)
    refine k_iload_n (pc' := 69) dX6_pairsApart_68 rfl ?_
    refine p_ireturn dX6_pairsApart_69 rfl ?_
    exact ⟨rfl, rfl⟩
theorem c_total (h : isT G σ t N far) : ConP G mX6_total 2 [.ref (adr G t)] σ (rI (tot N far) σ) := by
  have hT := h
  obtain ⟨ht, ht1, h0, h1, hN, hN6⟩ := h
  have hp := pN_le hN6
  refine ConP.of rfl (Nat.le_of_ble_eq_true rfl) ?_
  refine k_iconst (pc' := 1) (v := nI 0) dX6_total_0 rfl ?_
  refine k_istore_n (pc' := 2) dX6_total_1 (Nat.le_of_ble_eq_true rfl) rfl ?_
  refine k_iconst (pc' := 3) (v := nI 0) dX6_total_2 rfl ?_
  refine k_istore_n (pc' := 4) dX6_total_3 (Nat.le_of_ble_eq_true rfl) rfl ?_
  refine loopU (fun p a => OkP G mX6_total 2 (rI (tot N far) σ) 4 [some (.ref (adr G t)), some (.int a), some (.int (nI p))] [] σ) (fun p a => a + far p) (pN N) 0 (pN N) (nI 0) (by omega) ?_ ?_
  · intro p a _ hpp ih
    refine k_iload_n (pc' := 5) dX6_total_4 rfl ?_
    refine k_aload_n (pc' := 6) dX6_total_5 rfl ?_
    refine p_vI (ν := mX6_pairCount) (pc' := 9) dX6_total_6 ml_RX6_31 mo_X6_pairCount mv_X6_pairCount clX6 (Nat.le_of_ble_eq_true rfl) rfl rfl (Nat.le_of_ble_eq_true rfl) (by first | assumption | decide | omega) (by assumption) (by decide) (c_pairCount hT) ?_
    refine k_icmp_ge (tgt := 27) (pc' := 12) dX6_total_9 rfl (fun zz_ => absurd zz_ (by rw [nI_leI (by omega) (by omega)]; omega)) (fun _ => ?_)
    refine k_iload_n (pc' := 13) dX6_total_12 rfl ?_
    refine k_aload_n (pc' := 14) dX6_total_13 rfl ?_
    refine p_get (pc' := 17) clX6 (Nat.le_of_ble_eq_true rfl) fl_RX6_15 dX6_total_14 (by first | assumption | decide | omega) (by assumption) rfl ?_
    refine k_iload_n (pc' := 18) dX6_total_17 rfl ?_
    refine p_ialdN (pc' := 19) dX6_total_18 (by first | assumption | decide | omega) (by assumption) (by first | decide | omega) (by omega) ?_
    refine k_iadd (pc' := 20) dX6_total_19 rfl ?_
    refine k_istore_n (pc' := 21) dX6_total_20 (Nat.le_of_ble_eq_true rfl) rfl ?_
    refine k_iinc (pc' := 24) (v := nI (p + 1)) dX6_total_21 rfl (nI_inc _) (Nat.le_of_ble_eq_true rfl) rfl ?_
    refine k_goto (tgt := 4) dX6_total_24 rfl ?_
    exact ih
  · refine k_iload_n (pc' := 5) dX6_total_4 rfl ?_
    refine k_aload_n (pc' := 6) dX6_total_5 rfl ?_
    refine p_vI (ν := mX6_pairCount) (pc' := 9) dX6_total_6 ml_RX6_31 mo_X6_pairCount mv_X6_pairCount clX6 (Nat.le_of_ble_eq_true rfl) rfl rfl (Nat.le_of_ble_eq_true rfl) (by first | assumption | decide | omega) (by assumption) (by decide) (c_pairCount hT) ?_
    refine k_icmp_ge (tgt := 27) (pc' := 12) dX6_total_9 rfl (fun _ => ?_) (fun zz_ => absurd (nI_le (by omega) (by omega)) zz_)
    refine k_iload_n (pc' := 28) dX6_total_27 rfl ?_
    refine p_ireturn dX6_total_28 rfl ?_
    exact ⟨rfl, rfl⟩
theorem c_inBounds (h : isT G σ t N far) : ConP G mX6_inBounds 2 [.ref (adr G t)] σ (rI (bI (inB N far)) σ) := by
  have hT := h
  obtain ⟨ht, ht1, h0, h1, hN, hN6⟩ := h
  have hp := pN_le hN6
  refine ConP.of rfl (Nat.le_of_ble_eq_true rfl) ?_
  refine k_iconst (pc' := 1) (v := nI 0) dX6_inBounds_0 rfl ?_
  refine k_istore_n (pc' := 2) dX6_inBounds_1 (Nat.le_of_ble_eq_true rfl) rfl ?_
  have main : ∀ n p, p + n = pN N → (∀ q, q < p → 0 ≤ (far q).toInt ∧ (far q).toInt ≤ 999) → OkP G mX6_inBounds 2 (rI (bI (inB N far)) σ) 2 [some (.ref (adr G t)), some (.int (nI p))] [] σ := by
    intro n
    induction n with
    | zero =>
      intro p hn hq
      refine k_iload_n (pc' := 3) dX6_inBounds_2 rfl ?_
      refine k_aload_n (pc' := 4) dX6_inBounds_3 rfl ?_
      refine p_vI (ν := mX6_pairCount) (pc' := 7) dX6_inBounds_4 ml_RX6_31 mo_X6_pairCount mv_X6_pairCount clX6 (Nat.le_of_ble_eq_true rfl) rfl rfl (Nat.le_of_ble_eq_true rfl) (by first | assumption | decide | omega) (by assumption) (by decide) (c_pairCount hT) ?_
      refine k_icmp_ge (tgt := 39) (pc' := 10) dX6_inBounds_7 rfl (fun _ => ?_) (fun zz_ => absurd (nI_le (by omega) (by omega)) zz_)
      refine k_iconst (pc' := 40) (v := nI 1) dX6_inBounds_39 rfl ?_
      refine p_zreturn dX6_inBounds_40 rfl (by first | exact Or.inl rfl | exact Or.inr rfl) ?_
      exact ⟨by rw [bI_t (fun q h => hq q (by omega))]; rfl, rfl⟩
    | succ n ih =>
      intro p hn hq
      refine k_iload_n (pc' := 3) dX6_inBounds_2 rfl ?_
      refine k_aload_n (pc' := 4) dX6_inBounds_3 rfl ?_
      refine p_vI (ν := mX6_pairCount) (pc' := 7) dX6_inBounds_4 ml_RX6_31 mo_X6_pairCount mv_X6_pairCount clX6 (Nat.le_of_ble_eq_true rfl) rfl rfl (Nat.le_of_ble_eq_true rfl) (by first | assumption | decide | omega) (by assumption) (by decide) (c_pairCount hT) ?_
      refine k_icmp_ge (tgt := 39) (pc' := 10) dX6_inBounds_7 rfl (fun zz_ => absurd zz_ (by rw [nI_leI (by omega) (by omega)]; omega)) (fun _ => ?_)
      refine k_aload_n (pc' := 11) dX6_inBounds_10 rfl ?_
      refine p_get (pc' := 14) clX6 (Nat.le_of_ble_eq_true rfl) fl_RX6_15 dX6_inBounds_11 (by first | assumption | decide | omega) (by assumption) rfl ?_
      refine k_iload_n (pc' := 15) dX6_inBounds_14 rfl ?_
      refine p_ialdN (pc' := 16) dX6_inBounds_15 (by first | assumption | decide | omega) (by assumption) (by first | decide | omega) (by omega) ?_
      refine k_if_lt (tgt := 31) (pc' := 19) dX6_inBounds_16 rfl (fun c_16 => ?_) (fun c_16 => ?_)
      · rw [iLt, i0] at c_16
        refine k_iconst (pc' := 32) (v := nI 0) dX6_inBounds_31 rfl ?_
        refine p_zreturn dX6_inBounds_32 rfl (by first | exact Or.inl rfl | exact Or.inr rfl) ?_
        exact ⟨by rw [bI_f (fun z => by have := z p (by omega); omega)]; rfl, rfl⟩
      rw [iLt, i0] at c_16
      refine k_aload_n (pc' := 20) dX6_inBounds_19 rfl ?_
      refine p_get (pc' := 23) clX6 (Nat.le_of_ble_eq_true rfl) fl_RX6_15 dX6_inBounds_20 (by first | assumption | decide | omega) (by assumption) rfl ?_
      refine k_iload_n (pc' := 24) dX6_inBounds_23 rfl ?_
      refine p_ialdN (pc' := 25) dX6_inBounds_24 (by first | assumption | decide | omega) (by assumption) (by first | decide | omega) (by omega) ?_
      refine k_sipush (pc' := 28) (v := nI 999) dX6_inBounds_25 rfl ?_
      refine k_icmp_le (tgt := 33) (pc' := 31) dX6_inBounds_28 rfl (fun c_28 => ?_) (fun c_28 => ?_)
      · rw [iLe, nI_e (by decide)] at c_28
        refine k_iinc (pc' := 36) (v := nI (p + 1)) dX6_inBounds_33 rfl (nI_inc _) (Nat.le_of_ble_eq_true rfl) rfl ?_
        refine k_goto (tgt := 2) dX6_inBounds_36 rfl ?_
        exact ih (p + 1) (by omega) (fun q h => by
          rcases Nat.lt_or_ge q p with h2 | h2
          · exact hq q h2
          · have : q = p := by omega
            subst this
            exact ⟨by omega, c_28⟩)
      · rw [iLe, nI_e (by decide)] at c_28
        refine k_iconst (pc' := 32) (v := nI 0) dX6_inBounds_31 rfl ?_
        refine p_zreturn dX6_inBounds_32 rfl (by first | exact Or.inl rfl | exact Or.inr rfl) ?_
        exact ⟨by rw [bI_f (fun z => by have := z p (by omega); omega)]; rfl, rfl⟩
  exact main (pN N) 0 (by omega) (fun q h => by omega)
theorem c_unlike {t2 N2 : Nat} {far2 : Nat → Int32} (h : isT G σ t N far) (h2 : isT G σ t2 N2 far2) : ConP G mX6_unlike 2 [.ref (adr G t), .ref (adr G t2)] σ (rI (if N = N2 then unl N far far2 else nI 0) σ) := by
  have hT := h
  obtain ⟨ht, ht1, h0, h1, hN, hN6⟩ := h
  obtain ⟨jt, jt1, j0, j1, jN, jN6⟩ := h2
  have hp := pN_le hN6
  refine ConP.of rfl (Nat.le_of_ble_eq_true rfl) ?_
  by_cases hne : N = N2
  · subst hne
    rw [if_pos rfl]
    refine k_iconst (pc' := 1) (v := nI 0) dX6_unlike_0 rfl ?_
    refine k_istore_n (pc' := 2) dX6_unlike_1 (Nat.le_of_ble_eq_true rfl) rfl ?_
    refine k_iconst (pc' := 3) (v := nI 0) dX6_unlike_2 rfl ?_
    refine k_istore_n (pc' := 4) dX6_unlike_3 (Nat.le_of_ble_eq_true rfl) rfl ?_
    refine loopU (fun p a => OkP G mX6_unlike 2 (rI (unl N far far2) σ) 4 [some (.ref (adr G t)), some (.ref (adr G t2)), some (.int a), some (.int (nI p))] [] σ) (fun p a => a + (if far p = far2 p then nI 0 else nI 1)) (pN N) 0 (pN N) (nI 0) (by omega) ?_ ?_
    · intro p a _ hpp ih
      by_cases he : far p = far2 p
      · rw [if_pos he] at ih
        refine k_aload_n (pc' := 5) dX6_unlike_4 rfl ?_
        refine p_get (pc' := 8) clX6 (Nat.le_of_ble_eq_true rfl) fl_RX6_9 dX6_unlike_5 (by first | assumption | decide | omega) (by assumption) rfl ?_
        refine k_aload_n (pc' := 9) dX6_unlike_8 rfl ?_
        refine p_get (pc' := 12) clX6 (Nat.le_of_ble_eq_true rfl) fl_RX6_9 dX6_unlike_9 (by first | assumption | decide | omega) (by assumption) rfl ?_
        refine k_icmp_ne (tgt := 52) (pc' := 15) dX6_unlike_12 rfl (fun zz_ => absurd rfl zz_) (fun _ => ?_)
        refine k_iload_n (pc' := 16) dX6_unlike_15 rfl ?_
        refine k_aload_n (pc' := 17) dX6_unlike_16 rfl ?_
        refine p_vI (ν := mX6_pairCount) (pc' := 20) dX6_unlike_17 ml_RX6_31 mo_X6_pairCount mv_X6_pairCount clX6 (Nat.le_of_ble_eq_true rfl) rfl rfl (Nat.le_of_ble_eq_true rfl) (by first | assumption | decide | omega) (by assumption) (by decide) (c_pairCount hT) ?_
        refine k_icmp_ge (tgt := 52) (pc' := 23) dX6_unlike_20 rfl (fun zz_ => absurd zz_ (by rw [nI_leI (by omega) (by omega)]; omega)) (fun _ => ?_)
        refine k_iload_n (pc' := 24) dX6_unlike_23 rfl ?_
        refine k_aload_n (pc' := 25) dX6_unlike_24 rfl ?_
        refine p_get (pc' := 28) clX6 (Nat.le_of_ble_eq_true rfl) fl_RX6_15 dX6_unlike_25 (by first | assumption | decide | omega) (by assumption) rfl ?_
        refine k_iload_n (pc' := 29) dX6_unlike_28 rfl ?_
        refine p_ialdN (pc' := 30) dX6_unlike_29 (by first | assumption | decide | omega) (by assumption) (by first | decide | omega) (by omega) ?_
        refine k_aload_n (pc' := 31) dX6_unlike_30 rfl ?_
        refine p_get (pc' := 34) clX6 (Nat.le_of_ble_eq_true rfl) fl_RX6_15 dX6_unlike_31 (by first | assumption | decide | omega) (by assumption) rfl ?_
        refine k_iload_n (pc' := 35) dX6_unlike_34 rfl ?_
        refine p_ialdN (pc' := 36) dX6_unlike_35 (by first | assumption | decide | omega) (by assumption) (by first | decide | omega) (by omega) ?_
        refine k_icmp_eq (tgt := 43) (pc' := 39) dX6_unlike_36 rfl (fun _ => ?_) (fun zz_ => absurd he zz_)
        refine k_iconst (pc' := 44) (v := nI 0) dX6_unlike_43 rfl ?_
        refine k_iadd (pc' := 45) dX6_unlike_44 rfl ?_
        refine k_istore_n (pc' := 46) dX6_unlike_45 (Nat.le_of_ble_eq_true rfl) rfl ?_
        refine k_iinc (pc' := 49) (v := nI (p + 1)) dX6_unlike_46 rfl (nI_inc _) (Nat.le_of_ble_eq_true rfl) rfl ?_
        refine k_goto (tgt := 4) dX6_unlike_49 rfl ?_
        exact ih
      · rw [if_neg he] at ih
        refine k_aload_n (pc' := 5) dX6_unlike_4 rfl ?_
        refine p_get (pc' := 8) clX6 (Nat.le_of_ble_eq_true rfl) fl_RX6_9 dX6_unlike_5 (by first | assumption | decide | omega) (by assumption) rfl ?_
        refine k_aload_n (pc' := 9) dX6_unlike_8 rfl ?_
        refine p_get (pc' := 12) clX6 (Nat.le_of_ble_eq_true rfl) fl_RX6_9 dX6_unlike_9 (by first | assumption | decide | omega) (by assumption) rfl ?_
        refine k_icmp_ne (tgt := 52) (pc' := 15) dX6_unlike_12 rfl (fun zz_ => absurd rfl zz_) (fun _ => ?_)
        refine k_iload_n (pc' := 16) dX6_unlike_15 rfl ?_
        refine k_aload_n (pc' := 17) dX6_unlike_16 rfl ?_
        refine p_vI (ν := mX6_pairCount) (pc' := 20) dX6_unlike_17 ml_RX6_31 mo_X6_pairCount mv_X6_pairCount clX6 (Nat.le_of_ble_eq_true rfl) rfl rfl (Nat.le_of_ble_eq_true rfl) (by first | assumption | decide | omega) (by assumption) (by decide) (c_pairCount hT) ?_
        refine k_icmp_ge (tgt := 52) (pc' := 23) dX6_unlike_20 rfl (fun zz_ => absurd zz_ (by rw [nI_leI (by omega) (by omega)]; omega)) (fun _ => ?_)
        refine k_iload_n (pc' := 24) dX6_unlike_23 rfl ?_
        refine k_aload_n (pc' := 25) dX6_unlike_24 rfl ?_
        refine p_get (pc' := 28) clX6 (Nat.le_of_ble_eq_true rfl) fl_RX6_15 dX6_unlike_25 (by first | assumption | decide | omega) (by assumption) rfl ?_
        refine k_iload_n (pc' := 29) dX6_unlike_28 rfl ?_
        refine p_ialdN (pc' := 30) dX6_unlike_29 (by first | assumption | decide | omega) (by assumption) (by first | decide | omega) (by omega) ?_
        refine k_aload_n (pc' := 31) dX6_unlike_30 rfl ?_
        refine p_get (pc' := 34) clX6 (Nat.le_of_ble_eq_true rfl) fl_RX6_15 dX6_unlike_31 (by first | assumption | decide | omega) (by assumption) rfl ?_
        refine k_iload_n (pc' := 35) dX6_unlike_34 rfl ?_
        refine p_ialdN (pc' := 36) dX6_unlike_35 (by first | assumption | decide | omega) (by assumption) (by first | decide | omega) (by omega) ?_
        refine k_icmp_eq (tgt := 43) (pc' := 39) dX6_unlike_36 rfl (fun zz_ => absurd zz_ he) (fun _ => ?_)
        refine k_iconst (pc' := 40) (v := nI 1) dX6_unlike_39 rfl ?_
        refine k_goto (tgt := 44) dX6_unlike_40 rfl ?_
        refine k_iadd (pc' := 45) dX6_unlike_44 rfl ?_
        refine k_istore_n (pc' := 46) dX6_unlike_45 (Nat.le_of_ble_eq_true rfl) rfl ?_
        refine k_iinc (pc' := 49) (v := nI (p + 1)) dX6_unlike_46 rfl (nI_inc _) (Nat.le_of_ble_eq_true rfl) rfl ?_
        refine k_goto (tgt := 4) dX6_unlike_49 rfl ?_
        exact ih
    · refine k_aload_n (pc' := 5) dX6_unlike_4 rfl ?_
      refine p_get (pc' := 8) clX6 (Nat.le_of_ble_eq_true rfl) fl_RX6_9 dX6_unlike_5 (by first | assumption | decide | omega) (by assumption) rfl ?_
      refine k_aload_n (pc' := 9) dX6_unlike_8 rfl ?_
      refine p_get (pc' := 12) clX6 (Nat.le_of_ble_eq_true rfl) fl_RX6_9 dX6_unlike_9 (by first | assumption | decide | omega) (by assumption) rfl ?_
      refine k_icmp_ne (tgt := 52) (pc' := 15) dX6_unlike_12 rfl (fun zz_ => absurd rfl zz_) (fun _ => ?_)
      refine k_iload_n (pc' := 16) dX6_unlike_15 rfl ?_
      refine k_aload_n (pc' := 17) dX6_unlike_16 rfl ?_
      refine p_vI (ν := mX6_pairCount) (pc' := 20) dX6_unlike_17 ml_RX6_31 mo_X6_pairCount mv_X6_pairCount clX6 (Nat.le_of_ble_eq_true rfl) rfl rfl (Nat.le_of_ble_eq_true rfl) (by first | assumption | decide | omega) (by assumption) (by decide) (c_pairCount hT) ?_
      refine k_icmp_ge (tgt := 52) (pc' := 23) dX6_unlike_20 rfl (fun _ => ?_) (fun zz_ => absurd (nI_le (by omega) (by omega)) zz_)
      refine k_iload_n (pc' := 53) dX6_unlike_52 rfl ?_
      refine p_ireturn dX6_unlike_53 rfl ?_
      exact ⟨rfl, rfl⟩
  · rw [if_neg hne]
    refine k_iconst (pc' := 1) (v := nI 0) dX6_unlike_0 rfl ?_
    refine k_istore_n (pc' := 2) dX6_unlike_1 (Nat.le_of_ble_eq_true rfl) rfl ?_
    refine k_iconst (pc' := 3) (v := nI 0) dX6_unlike_2 rfl ?_
    refine k_istore_n (pc' := 4) dX6_unlike_3 (Nat.le_of_ble_eq_true rfl) rfl ?_
    refine k_aload_n (pc' := 5) dX6_unlike_4 rfl ?_
    refine p_get (pc' := 8) clX6 (Nat.le_of_ble_eq_true rfl) fl_RX6_9 dX6_unlike_5 (by first | assumption | decide | omega) (by assumption) rfl ?_
    refine k_aload_n (pc' := 9) dX6_unlike_8 rfl ?_
    refine p_get (pc' := 12) clX6 (Nat.le_of_ble_eq_true rfl) fl_RX6_9 dX6_unlike_9 (by first | assumption | decide | omega) (by assumption) rfl ?_
    refine k_icmp_ne (tgt := 52) (pc' := 15) dX6_unlike_12 rfl (fun _ => ?_) (fun zz_ => absurd zz_ (by rw [nI_eq (by omega) (by omega)]; exact hne))
    refine k_iload_n (pc' := 53) dX6_unlike_52 rfl ?_
    refine p_ireturn dX6_unlike_53 rfl ?_
    exact ⟨rfl, rfl⟩
theorem c_clearTo {N2 : Nat} (h : isT G σ t N far) (hN2 : 2 ≤ N2) (hN26 : N2 ≤ 6) : ConP G mX6_clearTo 1 [.ref (adr G t), .int (nI N2)] σ (rV (putT G σ t N2 (zf 15 far))) := by
  have hT := h
  obtain ⟨ht, ht1, h0, h1, hN, hN6⟩ := h
  refine ConP.of rfl (Nat.le_of_ble_eq_true rfl) ?_
  refine k_aload_n (pc' := 1) dX6_clearTo_0 rfl ?_
  refine k_iload_n (pc' := 2) dX6_clearTo_1 rfl ?_
  refine p_putI (pc' := 5) (σ1 := putT G σ t N2 far) clX6 (Nat.le_of_ble_eq_true rfl) fl_RX6_9 dX6_clearTo_2 rfl (Or.inl rfl) (by first | assumption | decide | omega) (by assumption) (Nat.le_of_ble_eq_true rfl) (by exact (putT_of hT)) ?_
  refine k_iconst (pc' := 6) (v := nI 0) dX6_clearTo_5 rfl ?_
  refine k_istore_n (pc' := 7) dX6_clearTo_6 (Nat.le_of_ble_eq_true rfl) rfl ?_
  refine loopU (fun p f => OkP G mX6_clearTo 1 (rV (putT G σ t N2 (zf 15 far))) 7 [some (.ref (adr G t)), some (.int (nI N2)), some (.int (nI p))] [] (putT G σ t N2 f)) (fun p f => upd f p (nI 0)) 15 0 15 far (by omega) ?_ ?_
  · intro p f _ hp ih
    refine k_iload_n (pc' := 8) dX6_clearTo_7 rfl ?_
    refine k_bipush (pc' := 10) (v := nI 15) dX6_clearTo_8 rfl ?_
    refine k_icmp_ge (tgt := 26) (pc' := 13) dX6_clearTo_10 rfl (fun zz_ => absurd zz_ (by rw [nI_leI (by omega) (by omega)]; omega)) (fun _ => ?_)
    refine k_aload_n (pc' := 14) dX6_clearTo_13 rfl ?_
    refine p_get (pc' := 17) clX6 (Nat.le_of_ble_eq_true rfl) fl_RX6_15 dX6_clearTo_14 (by first | assumption | decide | omega) putT_t rfl ?_
    refine k_iload_n (pc' := 18) dX6_clearTo_17 rfl ?_
    refine k_iconst (pc' := 19) (v := nI 0) dX6_clearTo_18 rfl ?_
    refine p_iastN (pc' := 20) (σ1 := putT G σ t N2 (upd f p (nI 0))) dX6_clearTo_19 (by first | assumption | decide | omega) putT_f (by first | decide | omega) (by omega) (by exact up_up) ?_
    refine k_iinc (pc' := 23) (v := nI (p + 1)) dX6_clearTo_20 rfl (nI_inc _) (Nat.le_of_ble_eq_true rfl) rfl ?_
    refine k_goto (tgt := 7) dX6_clearTo_23 rfl ?_
    exact ih
  · refine k_iload_n (pc' := 8) dX6_clearTo_7 rfl ?_
    refine k_bipush (pc' := 10) (v := nI 15) dX6_clearTo_8 rfl ?_
    refine k_icmp_ge (tgt := 26) (pc' := 13) dX6_clearTo_10 rfl (fun _ => ?_) (fun zz_ => absurd (nI_le (by omega) (by omega)) zz_)
    refine p_return dX6_clearTo_26 rfl ?_
    exact ⟨rfl, rfl⟩
theorem c_copyFrom {t2 N2 : Nat} {far2 : Nat → Int32} (h : isT G σ t N far) (h2 : isT G σ t2 N2 far2) (hd1 : t2 ≠ t) (hd2 : t2 ≠ t + 1) (hd3 : t ≠ t2 + 1) : ConP G mX6_copyFrom 1 [.ref (adr G t), .ref (adr G t2)] σ (rV (putT G σ t N2 (va_cpy far2 far 0 0 15))) := by
  have hT := h
  obtain ⟨ht, ht1, h0, h1, hN, hN6⟩ := h
  have hT2 := putT_far (M := N2) (f := far) h2 hd1 hd2 hd3
  obtain ⟨jt, jt1, j0, j1, jN, jN6⟩ := h2
  refine ConP.of rfl (Nat.le_of_ble_eq_true rfl) ?_
  refine k_aload_n (pc' := 1) dX6_copyFrom_0 rfl ?_
  refine k_aload_n (pc' := 2) dX6_copyFrom_1 rfl ?_
  refine p_get (pc' := 5) clX6 (Nat.le_of_ble_eq_true rfl) fl_RX6_9 dX6_copyFrom_2 (by first | assumption | decide | omega) (by assumption) rfl ?_
  refine p_putI (pc' := 8) (σ1 := putT G σ t N2 far) clX6 (Nat.le_of_ble_eq_true rfl) fl_RX6_9 dX6_copyFrom_5 rfl (Or.inl rfl) (by first | assumption | decide | omega) (by assumption) (Nat.le_of_ble_eq_true rfl) (by exact (putT_of hT)) ?_
  refine k_aload_n (pc' := 9) dX6_copyFrom_8 rfl ?_
  refine p_get (pc' := 12) clX6 (Nat.le_of_ble_eq_true rfl) fl_RX6_15 dX6_copyFrom_9 (by first | assumption | decide | omega) hT2.2.2.1 rfl ?_
  refine k_iconst (pc' := 13) (v := nI 0) dX6_copyFrom_12 rfl ?_
  refine k_aload_n (pc' := 14) dX6_copyFrom_13 rfl ?_
  refine p_get (pc' := 17) clX6 (Nat.le_of_ble_eq_true rfl) fl_RX6_15 dX6_copyFrom_14 (by first | assumption | decide | omega) putT_t rfl ?_
  refine k_iconst (pc' := 18) (v := nI 0) dX6_copyFrom_17 rfl ?_
  refine k_bipush (pc' := 20) (v := nI 15) dX6_copyFrom_18 rfl ?_
  refine p_copyi (pc' := 23) dX6_copyFrom_20 ml_RX6_42 (by decide) (Nat.le_of_ble_eq_true rfl) jt1 hT2.2.2.2.1 ht1 putT_f (by decide) (by decide) (by decide) (by decide) (by decide) ?_
  refine p_return dX6_copyFrom_23 rfl ?_
  exact ⟨rfl, up_up⟩
theorem c_shorten (h : isT G σ t N far) : ConP G mX6_shorten 3 [.ref (adr G t)] σ (rV (putT G σ t N (sho N far))) := by
  have hT := h
  obtain ⟨ht, ht1, h0, h1, hN, hN6⟩ := h
  refine ConP.of rfl (Nat.le_of_ble_eq_true rfl) ?_
  refine k_iconst (pc' := 1) (v := nI 0) dX6_shorten_0 rfl ?_
  refine k_istore_n (pc' := 2) dX6_shorten_1 (Nat.le_of_ble_eq_true rfl) rfl ?_
  rw [← putT_id hT]
  refine loopU (fun s f => ∀ a b c, OkP G mX6_shorten 3 (rV (putT G (putT G σ t N far) t N (sho N far))) 2 [some (.ref (adr G t)), some (.int (nI s)), a, b, c] [] (putT G σ t N f)) (sho3 N) N 0 N far (by omega) ?_ ?_ none none none
  · intro s f _ hs ih a b c
    refine k_iload_n (pc' := 3) dX6_shorten_2 rfl ?_
    refine k_aload_n (pc' := 4) dX6_shorten_3 rfl ?_
    refine p_get (pc' := 7) clX6 (Nat.le_of_ble_eq_true rfl) fl_RX6_9 dX6_shorten_4 (by first | assumption | decide | omega) putT_t rfl ?_
    refine k_icmp_ge (tgt := 87) (pc' := 10) dX6_shorten_7 rfl (fun zz_ => absurd zz_ (by rw [nI_leI (by omega) (by omega)]; omega)) (fun _ => ?_)
    refine k_iconst (pc' := 11) (v := nI 0) dX6_shorten_10 rfl ?_
    refine k_istore_n (pc' := 12) dX6_shorten_11 (Nat.le_of_ble_eq_true rfl) rfl ?_
    refine loopU (fun i f => ∀ b c, OkP G mX6_shorten 3 (rV (putT G (putT G σ t N far) t N (sho N far))) 12 [some (.ref (adr G t)), some (.int (nI s)), some (.int (nI i)), b, c] [] (putT G σ t N f)) (sho2 N s) N 0 N f (by omega) ?_ ?_ b c
    · intro i f _ hi ih2 b c
      refine k_iload_n (pc' := 13) dX6_shorten_12 rfl ?_
      refine k_aload_n (pc' := 14) dX6_shorten_13 rfl ?_
      refine p_get (pc' := 17) clX6 (Nat.le_of_ble_eq_true rfl) fl_RX6_9 dX6_shorten_14 (by first | assumption | decide | omega) putT_t rfl ?_
      refine k_icmp_ge (tgt := 81) (pc' := 20) dX6_shorten_17 rfl (fun zz_ => absurd zz_ (by rw [nI_leI (by omega) (by omega)]; omega)) (fun _ => ?_)
      refine k_iload_n (pc' := 21) dX6_shorten_20 rfl ?_
      refine k_iconst (pc' := 22) (v := nI 1) dX6_shorten_21 rfl ?_
      refine k_iadd (pc' := 23) (v := nI (i + 1)) dX6_shorten_22 (nI_add _ _) ?_
      refine k_istore_n (pc' := 24) dX6_shorten_23 (Nat.le_of_ble_eq_true rfl) rfl ?_
      refine loopU (fun j f => ∀ c, OkP G mX6_shorten 3 (rV (putT G (putT G σ t N far) t N (sho N far))) 24 [some (.ref (adr G t)), some (.int (nI s)), some (.int (nI i)), some (.int (nI j)), c] [] (putT G σ t N f)) (sho1 N s i) N (i + 1) (N - (i + 1)) f (by omega) ?_ ?_ c
      · intro j f hij hj ih3 c
        have hF := putT_T (f := f) hT hN hN6
        refine k_iload_n (pc' := 25) dX6_shorten_24 rfl ?_
        refine k_aload_n (pc' := 26) dX6_shorten_25 rfl ?_
        refine p_get (pc' := 29) clX6 (Nat.le_of_ble_eq_true rfl) fl_RX6_9 dX6_shorten_26 (by first | assumption | decide | omega) putT_t rfl ?_
        refine k_icmp_ge (tgt := 75) (pc' := 32) dX6_shorten_29 rfl (fun zz_ => absurd zz_ (by rw [nI_leI (by omega) (by omega)]; omega)) (fun _ => ?_)
        refine k_aload_n (pc' := 33) dX6_shorten_32 rfl ?_
        refine k_iload_n (pc' := 34) dX6_shorten_33 rfl ?_
        refine k_iload_n (pc' := 35) dX6_shorten_34 rfl ?_
        refine p_vI (ν := mX6_between) (pc' := 38) dX6_shorten_35 ml_RX6_34 mo_X6_between mv_X6_between clX6 (Nat.le_of_ble_eq_true rfl) rfl rfl (Nat.le_of_ble_eq_true rfl) (by first | assumption | decide | omega) putT_t (by decide) (c_between hF (by omega) (by omega)) ?_
        refine k_aload_n (pc' := 39) dX6_shorten_38 rfl ?_
        refine k_iload_n (pc' := 40) dX6_shorten_39 rfl ?_
        refine k_iload_n (pc' := 41) dX6_shorten_40 rfl ?_
        refine p_vI (ν := mX6_between) (pc' := 44) dX6_shorten_41 ml_RX6_34 mo_X6_between mv_X6_between clX6 (Nat.le_of_ble_eq_true rfl) rfl rfl (Nat.le_of_ble_eq_true rfl) (by first | assumption | decide | omega) putT_t (by decide) (c_between hF (by omega) (by omega)) ?_
        refine k_iadd (pc' := 45) dX6_shorten_44 rfl ?_
        refine k_istore (pc' := 47) dX6_shorten_45 (Nat.le_of_ble_eq_true rfl) rfl ?_
        refine k_aload_n (pc' := 48) dX6_shorten_47 rfl ?_
        refine p_get (pc' := 51) clX6 (Nat.le_of_ble_eq_true rfl) fl_RX6_15 dX6_shorten_48 (by first | assumption | decide | omega) putT_t rfl ?_
        refine k_aload_n (pc' := 52) dX6_shorten_51 rfl ?_
        refine k_iload_n (pc' := 53) dX6_shorten_52 rfl ?_
        refine k_iload_n (pc' := 54) dX6_shorten_53 rfl ?_
        refine p_vI (ν := mX6_pairOf) (pc' := 57) dX6_shorten_54 ml_RX6_27 mo_X6_pairOf mv_X6_pairOf clX6 (Nat.le_of_ble_eq_true rfl) rfl rfl (Nat.le_of_ble_eq_true rfl) (by first | assumption | decide | omega) putT_t (by decide) (c_pairOf hF hi hj (by omega)) ?_
        refine k_aload_n (pc' := 58) dX6_shorten_57 rfl ?_
        refine k_iload_n (pc' := 59) dX6_shorten_58 rfl ?_
        refine k_iload_n (pc' := 60) dX6_shorten_59 rfl ?_
        refine p_vI (ν := mX6_between) (pc' := 63) dX6_shorten_60 ml_RX6_34 mo_X6_between mv_X6_between clX6 (Nat.le_of_ble_eq_true rfl) rfl rfl (Nat.le_of_ble_eq_true rfl) (by first | assumption | decide | omega) putT_t (by decide) (c_between hF (by omega) (by omega)) ?_
        refine k_iload (pc' := 65) dX6_shorten_63 rfl ?_
        refine p_min (pc' := 68) dX6_shorten_65 ml_RX6_37 (by decide) (Nat.le_of_ble_eq_true rfl) rfl ?_
        refine p_iastN (pc' := 69) (σ1 := putT G σ t N (sho1 N s i j f)) dX6_shorten_68 (by first | assumption | decide | omega) putT_f (by first | decide | omega) (pI_lt hN6 hi hj (by omega)) (by exact up_up) ?_
        refine k_iinc (pc' := 72) (v := nI (j + 1)) dX6_shorten_69 rfl (nI_inc _) (Nat.le_of_ble_eq_true rfl) rfl ?_
        refine k_goto (tgt := 24) dX6_shorten_72 rfl ?_
        exact ih3 _
      · intro c
        refine k_iload_n (pc' := 25) dX6_shorten_24 rfl ?_
        refine k_aload_n (pc' := 26) dX6_shorten_25 rfl ?_
        refine p_get (pc' := 29) clX6 (Nat.le_of_ble_eq_true rfl) fl_RX6_9 dX6_shorten_26 (by first | assumption | decide | omega) putT_t rfl ?_
        refine k_icmp_ge (tgt := 75) (pc' := 32) dX6_shorten_29 rfl (fun _ => ?_) (fun zz_ => absurd (nI_le (by omega) (by omega)) zz_)
        refine k_iinc (pc' := 78) (v := nI (i + 1)) dX6_shorten_75 rfl (nI_inc _) (Nat.le_of_ble_eq_true rfl) rfl ?_
        refine k_goto (tgt := 12) dX6_shorten_78 rfl ?_
        exact ih2 _ _
    · intro b c
      refine k_iload_n (pc' := 13) dX6_shorten_12 rfl ?_
      refine k_aload_n (pc' := 14) dX6_shorten_13 rfl ?_
      refine p_get (pc' := 17) clX6 (Nat.le_of_ble_eq_true rfl) fl_RX6_9 dX6_shorten_14 (by first | assumption | decide | omega) putT_t rfl ?_
      refine k_icmp_ge (tgt := 81) (pc' := 20) dX6_shorten_17 rfl (fun _ => ?_) (fun zz_ => absurd (nI_le (by omega) (by omega)) zz_)
      refine k_iinc (pc' := 84) (v := nI (s + 1)) dX6_shorten_81 rfl (nI_inc _) (Nat.le_of_ble_eq_true rfl) rfl ?_
      refine k_goto (tgt := 2) dX6_shorten_84 rfl ?_
      exact ih _ _ _
  · intro a b c
    refine k_iload_n (pc' := 3) dX6_shorten_2 rfl ?_
    refine k_aload_n (pc' := 4) dX6_shorten_3 rfl ?_
    refine p_get (pc' := 7) clX6 (Nat.le_of_ble_eq_true rfl) fl_RX6_9 dX6_shorten_4 (by first | assumption | decide | omega) putT_t rfl ?_
    refine k_icmp_ge (tgt := 87) (pc' := 10) dX6_shorten_7 rfl (fun _ => ?_) (fun zz_ => absurd (nI_le (by omega) (by omega)) zz_)
    refine p_return dX6_shorten_87 rfl ?_
    exact ⟨rfl, putT_o.symm⟩
end TABLE
