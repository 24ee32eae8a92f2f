/-! Places -/
def ab (v : Int32) : Int32 := if 0 ≤ v then v else 0 - v
def isPl (G : GT) (σ : Sto) (t : Nat) (x y : Nat → Int32) : Prop := t + 2 < kW ∧ σ t = ob 2 [.ref (adr G (t + 1)), .ref (adr G (t + 2))] ∧ σ (t + 1) = aI G 6 x ∧ σ (t + 2) = aI G 6 y
def putP (G : GT) (σ : Sto) (t : Nat) (x y : Nat → Int32) : Sto := va_up (va_up σ (t + 1) (aI G 6 x)) (t + 2) (aI G 6 y)
/-- zero from k on -/
def clF (k n : Nat) (f : Nat → Int32) : Nat → Int32 := upn (n - k) k (fun i f => upd f i (nI 0)) f
section PLACES
variable {G : GT} {σ : Sto} {t : Nat} {x y : Nat → Int32}
theorem putP_t {x2 y2 : Nat → Int32} : putP G σ t x2 y2 t = σ t := by unfold putP; rw [up_n (by omega), up_n (by omega)]
theorem putP_x {x2 y2 : Nat → Int32} : putP G σ t x2 y2 (t + 1) = aI G 6 x2 := by unfold putP; rw [up_n (by omega), up_s]
theorem putP_y {x2 y2 : Nat → Int32} : putP G σ t x2 y2 (t + 2) = aI G 6 y2 := up_s
theorem putP_n {x2 y2 : Nat → Int32} {q : Nat} (h : q ≠ t + 1) (h2 : q ≠ t + 2) : putP G σ t x2 y2 q = σ q := by unfold putP; rw [up_n h2, up_n h]
theorem putP_id (h : isPl G σ t x y) : putP G σ t x y = σ := by unfold putP; rw [up_id h.2.2.1, up_id h.2.2.2]
theorem putP_P {x2 y2 : Nat → Int32} (h : isPl G σ t x y) : isPl G (putP G σ t x2 y2) t x2 y2 := ⟨h.1, putP_t.trans h.2.1, putP_x, putP_y⟩
theorem c_townDistance (h : isPl G σ t x y) {i j : Nat} (hi : i < 6) (hj : j < 6) : ConP G mX2_townDistance 1 [.ref (adr G t), .int (nI i), .int (nI j)] σ (rI (ab (x i - x j) + ab (y i - y j)) σ) := by
  obtain ⟨ht, h0, h1, h2⟩ := h
  refine ConP.of rfl (Nat.le_of_ble_eq_true rfl) ?_
  refine k_aload_n (pc' := 1) dX2_townDistance_0 rfl ?_
  refine p_get (pc' := 4) clX2 (Nat.le_of_ble_eq_true rfl) fl_RX2_9 dX2_townDistance_1 (by first | assumption | decide | omega) (by assumption) rfl ?_
  refine k_iload_n (pc' := 5) dX2_townDistance_4 rfl ?_
  refine p_ialdN (pc' := 6) dX2_townDistance_5 (by first | assumption | decide | omega) (by assumption) (by first | decide | omega) (by omega) ?_
  refine k_aload_n (pc' := 7) dX2_townDistance_6 rfl ?_
  refine p_get (pc' := 10) clX2 (Nat.le_of_ble_eq_true rfl) fl_RX2_9 dX2_townDistance_7 (by first | assumption | decide | omega) (by assumption) rfl ?_
  refine k_iload_n (pc' := 11) dX2_townDistance_10 rfl ?_
  refine p_ialdN (pc' := 12) dX2_townDistance_11 (by first | assumption | decide | omega) (by assumption) (by first | decide | omega) (by omega) ?_
  refine k_isub (pc' := 13) dX2_townDistance_12 rfl ?_
  refine p_abs (pc' := 16) dX2_townDistance_13 ml_RX2_18 (by decide) (Nat.le_of_ble_eq_true rfl) rfl ?_
  refine k_aload_n (pc' := 17) dX2_townDistance_16 rfl ?_
  refine p_get (pc' := 20) clX2 (Nat.le_of_ble_eq_true rfl) fl_RX2_15 dX2_townDistance_17 (by first | assumption | decide | omega) (by assumption) rfl ?_
  refine k_iload_n (pc' := 21) dX2_townDistance_20 rfl ?_
  refine p_ialdN (pc' := 22) dX2_townDistance_21 (by first | assumption | decide | omega) (by assumption) (by first | decide | omega) (by omega) ?_
  refine k_aload_n (pc' := 23) dX2_townDistance_22 rfl ?_
  refine p_get (pc' := 26) clX2 (Nat.le_of_ble_eq_true rfl) fl_RX2_15 dX2_townDistance_23 (by first | assumption | decide | omega) (by assumption) rfl ?_
  refine k_iload_n (pc' := 27) dX2_townDistance_26 rfl ?_
  refine p_ialdN (pc' := 28) dX2_townDistance_27 (by first | assumption | decide | omega) (by assumption) (by first | decide | omega) (by omega) ?_
  refine k_isub (pc' := 29) dX2_townDistance_28 rfl ?_
  refine p_abs (pc' := 32) dX2_townDistance_29 ml_RX2_18 (by decide) (Nat.le_of_ble_eq_true rfl) rfl ?_
  refine k_iadd (pc' := 33) dX2_townDistance_32 rfl ?_
  refine p_ireturn dX2_townDistance_33 rfl ?_
  exact ⟨rfl, rfl⟩
theorem c_clearFrom (h : isPl G σ t x y) {k : Nat} (hk : k ≤ 6) : ConP G mX2_clearFrom 1 [.ref (adr G t), .int (nI k)] σ (rV (putP G σ t (clF k 6 x) (clF k 6 y))) := by
  have hT := h
  obtain ⟨ht, h0, h1, h2⟩ := h
  refine ConP.of rfl (Nat.le_of_ble_eq_true rfl) ?_
  refine k_iload_n (pc' := 1) dX2_clearFrom_0 rfl ?_
  refine k_istore_n (pc' := 2) dX2_clearFrom_1 (Nat.le_of_ble_eq_true rfl) rfl ?_
  rw [← putP_id hT]
  refine loopU (fun p (f : (Nat → Int32) × (Nat → Int32)) => OkP G mX2_clearFrom 1 (rV (putP G (putP G σ t x y) t (clF k 6 x) (clF k 6 y))) 2 [some (.ref (adr G t)), some (.int (nI k)), some (.int (nI p))] [] (putP G σ t f.1 f.2)) (fun p f => (upd f.1 p (nI 0), upd f.2 p (nI 0))) 6 k (6 - k) (x, y) (by omega) ?_ ?_
  · intro p f _ hp ih
    refine k_iload_n (pc' := 3) dX2_clearFrom_2 rfl ?_
    refine k_bipush (pc' := 5) (v := nI 6) dX2_clearFrom_3 rfl ?_
    refine k_icmp_ge (tgt := 28) (pc' := 8) dX2_clearFrom_5 rfl (fun zz_ => absurd zz_ (nI_ge (by omega) (by omega))) (fun _ => ?_)
    refine k_aload_n (pc' := 9) dX2_clearFrom_8 rfl ?_
    refine p_get (pc' := 12) clX2 (Nat.le_of_ble_eq_true rfl) fl_RX2_9 dX2_clearFrom_9 (by first | assumption | decide | omega) (putP_t.trans h0) rfl ?_
    refine k_iload_n (pc' := 13) dX2_clearFrom_12 rfl ?_
    refine k_iconst (pc' := 14) (v := nI 0) dX2_clearFrom_13 rfl ?_
    refine p_iastN (pc' := 15) (σ1 := putP G σ t (upd f.1 p (nI 0)) f.2) dX2_clearFrom_14 (by first | assumption | decide | omega) putP_x (by first | decide | omega) (by omega) (by exact (by unfold putP; rw [up_c (v := aI G 6 f.2) (by omega), up_up])) ?_
    refine k_aload_n (pc' := 16) dX2_clearFrom_15 rfl ?_
    refine p_get (pc' := 19) clX2 (Nat.le_of_ble_eq_true rfl) fl_RX2_15 dX2_clearFrom_16 (by first | assumption | decide | omega) (putP_t.trans h0) rfl ?_
    refine k_iload_n (pc' := 20) dX2_clearFrom_19 rfl ?_
    refine k_iconst (pc' := 21) (v := nI 0) dX2_clearFrom_20 rfl ?_
    refine p_iastN (pc' := 22) (σ1 := putP G σ t (upd f.1 p (nI 0)) (upd f.2 p (nI 0))) dX2_clearFrom_21 (by first | assumption | decide | omega) putP_y (by first | decide | omega) (by omega) (by exact up_up) ?_
    refine k_iinc (pc' := 25) (v := nI (p + 1)) dX2_clearFrom_22 rfl (nI_inc _) (Nat.le_of_ble_eq_true rfl) rfl ?_
    refine k_goto (tgt := 2) dX2_clearFrom_25 rfl ?_
    exact ih
  · have e : ∀ n k (a b : Nat → Int32), upn n k (fun p (f : (Nat → Int32) × (Nat → Int32)) => (upd f.1 p (nI 0), upd f.2 p (nI 0))) (a, b) = (upn n k (fun i f => upd f i (nI 0)) a, upn n k (fun i f => upd f i (nI 0)) b) := by
      intro n
      induction n with
      | zero => intros; rfl
      | succ n ih => intro k a b; exact ih (k + 1) _ _
    rw [e]
    refine k_iload_n (pc' := 3) dX2_clearFrom_2 rfl ?_
    refine k_bipush (pc' := 5) (v := nI 6) dX2_clearFrom_3 rfl ?_
    refine k_icmp_ge (tgt := 28) (pc' := 8) dX2_clearFrom_5 rfl (fun _ => ?_) (fun zz_ => absurd (nI_le (by omega) (by omega)) zz_)
    refine p_return dX2_clearFrom_28 rfl ?_
    refine ⟨rfl, ?_⟩
    unfold putP clF
    rw [up_c (k := t + 2) (j := t + 1) (by omega), up_up, up_up]
theorem c_plCopy {t2 : Nat} {x2 y2 : Nat → Int32} (h : isPl G σ t x y) (h2 : isPl G σ t2 x2 y2) (hd : t2 + 2 < t ∨ t + 2 < t2) : ConP G mX2_copyFrom 1 [.ref (adr G t), .ref (adr G t2)] σ (rV (putP G σ t (va_cpy x2 x 0 0 6) (va_cpy y2 y 0 0 6))) := by
  obtain ⟨ht, h0, h1, h2'⟩ := h
  obtain ⟨jt, j0, j1, j2⟩ := h2
  refine ConP.of rfl (Nat.le_of_ble_eq_true rfl) ?_
  refine k_aload_n (pc' := 1) dX2_copyFrom_0 rfl ?_
  refine p_get (pc' := 4) clX2 (Nat.le_of_ble_eq_true rfl) fl_RX2_9 dX2_copyFrom_1 (by first | assumption | decide | omega) (by assumption) rfl ?_
  refine k_iconst (pc' := 5) (v := nI 0) dX2_copyFrom_4 rfl ?_
  refine k_aload_n (pc' := 6) dX2_copyFrom_5 rfl ?_
  refine p_get (pc' := 9) clX2 (Nat.le_of_ble_eq_true rfl) fl_RX2_9 dX2_copyFrom_6 (by first | assumption | decide | omega) (by assumption) rfl ?_
  refine k_iconst (pc' := 10) (v := nI 0) dX2_copyFrom_9 rfl ?_
  refine k_bipush (pc' := 12) (v := nI 6) dX2_copyFrom_10 rfl ?_
  refine p_copyi (pc' := 15) dX2_copyFrom_12 ml_RX2_24 (by decide) (Nat.le_of_ble_eq_true rfl) (by omega) j1 (by omega) h1 (by decide) (by decide) (by decide) (by decide) (by decide) ?_
  refine k_aload_n (pc' := 16) dX2_copyFrom_15 rfl ?_
  refine p_get (pc' := 19) clX2 (Nat.le_of_ble_eq_true rfl) fl_RX2_15 dX2_copyFrom_16 (by first | assumption | decide | omega) ((up_n (by omega)).trans j0) rfl ?_
  refine k_iconst (pc' := 20) (v := nI 0) dX2_copyFrom_19 rfl ?_
  refine k_aload_n (pc' := 21) dX2_copyFrom_20 rfl ?_
  refine p_get (pc' := 24) clX2 (Nat.le_of_ble_eq_true rfl) fl_RX2_15 dX2_copyFrom_21 (by first | assumption | decide | omega) ((up_n (by omega)).trans h0) rfl ?_
  refine k_iconst (pc' := 25) (v := nI 0) dX2_copyFrom_24 rfl ?_
  refine k_bipush (pc' := 27) (v := nI 6) dX2_copyFrom_25 rfl ?_
  refine p_copyi (pc' := 30) dX2_copyFrom_27 ml_RX2_24 (by decide) (Nat.le_of_ble_eq_true rfl) (by omega) ((up_n (by omega)).trans j2) (by omega) ((up_n (by omega)).trans h2') (by decide) (by decide) (by decide) (by decide) (by decide) ?_
  refine p_return dX2_copyFrom_30 rfl ?_
  exact ⟨rfl, rfl⟩
end PLACES
/-! Deeds: the object at 8, the ring's array at 9, its tables at 10, 12, .. 24 -/
def isDe (G : GT) (σ : Sto) (fr sz : Nat) (dN : Nat → Nat) (dF : Nat → Nat → Int32) : Prop := σ 8 = ob 0 [.ref (adr G 9), .int (nI fr), .int (nI sz)] ∧ σ 9 = aR G 3 8 (fun k => 10 + 2 * k) ∧ (∀ k, k < 8 → isT G σ (10 + 2 * k) (dN k) (dF k)) ∧ fr < 8 ∧ sz ≤ 8
section DEEDS
variable {G : GT} {σ : Sto} {fr sz t N : Nat} {dN : Nat → Nat} {dF : Nat → Nat → Int32} {far : Nat → Int32}
theorem c_keep (h : isDe G σ fr sz dN dF) (hT : isT G σ t N far) (ht : t + 1 < 8) : ConP G mX0_keep 2 [.ref (adr G 8), .ref (adr G t)] σ (rV (va_up (putT G σ (10 + 2 * fr) N (va_cpy far (dF fr) 0 0 15)) 8 (ob 0 [.ref (adr G 9), .int (nI ((fr + 1) % 8)), .int (nI (if sz < 8 then sz + 1 else 8))]))) := by
  obtain ⟨h8, h9, hK, hfr, hsz⟩ := h
  have hr := hK fr hfr
  refine ConP.of rfl (Nat.le_of_ble_eq_true rfl) ?_
  refine k_aload_n (pc' := 1) dX0_keep_0 rfl ?_
  refine p_get (pc' := 4) clX0 (Nat.le_of_ble_eq_true rfl) fl_RX0_11 dX0_keep_1 (by first | assumption | decide | omega) (by assumption) rfl ?_
  refine k_aload_n (pc' := 5) dX0_keep_4 rfl ?_
  refine p_get (pc' := 8) clX0 (Nat.le_of_ble_eq_true rfl) fl_RX0_17 dX0_keep_5 (by first | assumption | decide | omega) (by assumption) rfl ?_
  refine p_aaldN (pc' := 9) (t0 := 3) dX0_keep_8 rfl rfl (by first | assumption | decide | omega) (by assumption) (by decide) (by omega) ?_
  refine k_aload_n (pc' := 10) dX0_keep_9 rfl ?_
  refine p_vV (ν := mX6_copyFrom) (pc' := 13) dX0_keep_10 ml_RX0_25 mo_X6_copyFrom mv_X6_copyFrom clX6 (Nat.le_of_ble_eq_true rfl) rfl rfl (Nat.le_of_ble_eq_true rfl) hr.1 hr.2.2.1 (by decide) (c_copyFrom hr hT (by omega) (by omega) (by omega)) ?_
  refine k_aload_n (pc' := 14) dX0_keep_13 rfl ?_
  refine k_aload_n (pc' := 15) dX0_keep_14 rfl ?_
  refine p_get (pc' := 18) clX0 (Nat.le_of_ble_eq_true rfl) fl_RX0_17 dX0_keep_15 (by first | assumption | decide | omega) ((putT_n (by omega) (by omega)).trans h8) rfl ?_
  refine k_iconst (pc' := 19) (v := nI 1) dX0_keep_18 rfl ?_
  refine k_iadd (pc' := 20) (v := nI (fr + 1)) dX0_keep_19 (nI_add _ _) ?_
  refine k_bipush (pc' := 22) (v := nI 8) dX0_keep_20 rfl ?_
  refine k_irem (pc' := 23) (v := nI ((fr + 1) % 8)) dX0_keep_22 (by decide) (pk_rem (by omega) (by decide) (by decide)) ?_
  refine p_putI (pc' := 26) clX0 (Nat.le_of_ble_eq_true rfl) fl_RX0_17 dX0_keep_23 rfl (Or.inl rfl) (by first | assumption | decide | omega) ((putT_n (by omega) (by omega)).trans h8) (Nat.le_of_ble_eq_true rfl) rfl ?_
  refine k_aload_n (pc' := 27) dX0_keep_26 rfl ?_
  refine k_aload_n (pc' := 28) dX0_keep_27 rfl ?_
  refine p_get (pc' := 31) clX0 (Nat.le_of_ble_eq_true rfl) fl_RX0_21 dX0_keep_28 (by first | assumption | decide | omega) up_s rfl ?_
  refine k_iconst (pc' := 32) (v := nI 1) dX0_keep_31 rfl ?_
  refine k_iadd (pc' := 33) (v := nI (sz + 1)) dX0_keep_32 (nI_add _ _) ?_
  refine k_bipush (pc' := 35) (v := nI 8) dX0_keep_33 rfl ?_
  refine p_min (pc' := 38) dX0_keep_35 ml_RX0_29 (by decide) (Nat.le_of_ble_eq_true rfl) rfl ?_
  refine p_putI (pc' := 41) clX0 (Nat.le_of_ble_eq_true rfl) fl_RX0_21 dX0_keep_38 rfl (Or.inl rfl) (by first | assumption | decide | omega) up_s (Nat.le_of_ble_eq_true rfl) rfl ?_
  refine p_return dX0_keep_41 rfl ?_
  refine ⟨rfl, ?_⟩
  rw [up_up]
  congr 1
  by_cases hs : sz < 8
  · rw [if_pos hs]
    have h1 : ¬ nI 8 < nI (sz + 1) := nI_nlt (by omega) (by omega)
    simp [h1]
  · have : sz = 8 := by omega
    subst this
    rfl
theorem c_takeBack (h : isDe G σ fr sz dN dF) (hT : isT G σ t N far) (ht : t + 1 < 8) (hs : 0 < sz) : ConP G mX0_takeBack 2 [.ref (adr G 8), .ref (adr G t)] σ (rV (putT G (va_up σ 8 (ob 0 [.ref (adr G 9), .int (nI ((fr + 7) % 8)), .int (nI (sz - 1))])) t (dN ((fr + 7) % 8)) (va_cpy (dF ((fr + 7) % 8)) far 0 0 15))) := by
  obtain ⟨h8, h9, hK, hfr, hsz⟩ := h
  have hm : (fr + 7) % 8 < 8 := Nat.mod_lt _ (by decide)
  have hr := hK ((fr + 7) % 8) hm
  have up8 : ∀ {q M e} {f : Nat → Int32}, isT G σ q M f → (q + 1 < 8 ∨ 8 < q) → isT G (va_up σ 8 e) q M f := fun h hq => ⟨h.1, h.2.1, (up_n (by omega)).trans h.2.2.1, (up_n (by omega)).trans h.2.2.2.1, h.2.2.2.2⟩
  refine ConP.of rfl (Nat.le_of_ble_eq_true rfl) ?_
  refine k_aload_n (pc' := 1) dX0_takeBack_0 rfl ?_
  refine p_get (pc' := 4) clX0 (Nat.le_of_ble_eq_true rfl) fl_RX0_21 dX0_takeBack_1 (by first | assumption | decide | omega) (by assumption) rfl ?_
  refine k_if_le (tgt := 46) (pc' := 7) dX0_takeBack_4 rfl (fun zz_ => absurd zz_ (nI_nle (by omega) (by omega))) (fun _ => ?_)
  refine k_aload_n (pc' := 8) dX0_takeBack_7 rfl ?_
  refine k_aload_n (pc' := 9) dX0_takeBack_8 rfl ?_
  refine p_get (pc' := 12) clX0 (Nat.le_of_ble_eq_true rfl) fl_RX0_17 dX0_takeBack_9 (by first | assumption | decide | omega) (by assumption) rfl ?_
  refine k_bipush (pc' := 14) (v := nI 8) dX0_takeBack_12 rfl ?_
  refine k_iadd (pc' := 15) (v := nI (fr + 8)) dX0_takeBack_14 (nI_add _ _) ?_
  refine k_iconst (pc' := 16) (v := nI 1) dX0_takeBack_15 rfl ?_
  refine k_isub (pc' := 17) (v := nI (fr + 7)) dX0_takeBack_16 (pk_sub (by omega)) ?_
  refine k_bipush (pc' := 19) (v := nI 8) dX0_takeBack_17 rfl ?_
  refine k_irem (pc' := 20) (v := nI ((fr + 7) % 8)) dX0_takeBack_19 (by decide) (pk_rem (by omega) (by decide) (by decide)) ?_
  refine p_putI (pc' := 23) clX0 (Nat.le_of_ble_eq_true rfl) fl_RX0_17 dX0_takeBack_20 rfl (Or.inl rfl) (by first | assumption | decide | omega) (by assumption) (Nat.le_of_ble_eq_true rfl) rfl ?_
  refine k_aload_n (pc' := 24) dX0_takeBack_23 rfl ?_
  refine k_dup (pc' := 25) dX0_takeBack_24 rfl ?_
  refine p_get (pc' := 28) clX0 (Nat.le_of_ble_eq_true rfl) fl_RX0_21 dX0_takeBack_25 (by first | assumption | decide | omega) up_s rfl ?_
  refine k_iconst (pc' := 29) (v := nI 1) dX0_takeBack_28 rfl ?_
  refine k_isub (pc' := 30) (v := nI (sz - 1)) dX0_takeBack_29 (pk_sub (by omega)) ?_
  refine p_putI (pc' := 33) (σ1 := va_up σ 8 (ob 0 [.ref (adr G 9), .int (nI ((fr + 7) % 8)), .int (nI (sz - 1))])) clX0 (Nat.le_of_ble_eq_true rfl) fl_RX0_21 dX0_takeBack_30 rfl (Or.inl rfl) (by first | assumption | decide | omega) up_s (Nat.le_of_ble_eq_true rfl) (by exact up_up) ?_
  refine k_aload_n (pc' := 34) dX0_takeBack_33 rfl ?_
  refine k_aload_n (pc' := 35) dX0_takeBack_34 rfl ?_
  refine p_get (pc' := 38) clX0 (Nat.le_of_ble_eq_true rfl) fl_RX0_11 dX0_takeBack_35 (by first | assumption | decide | omega) up_s rfl ?_
  refine k_aload_n (pc' := 39) dX0_takeBack_38 rfl ?_
  refine p_get (pc' := 42) clX0 (Nat.le_of_ble_eq_true rfl) fl_RX0_17 dX0_takeBack_39 (by first | assumption | decide | omega) up_s rfl ?_
  refine p_aaldN (pc' := 43) (t0 := 3) dX0_takeBack_42 rfl rfl (by first | assumption | decide | omega) ((up_n (by omega)).trans h9) (by decide) (by omega) ?_
  refine p_vV (ν := mX6_copyFrom) (pc' := 46) dX0_takeBack_43 ml_RX0_25 mo_X6_copyFrom mv_X6_copyFrom clX6 (Nat.le_of_ble_eq_true rfl) rfl rfl (Nat.le_of_ble_eq_true rfl) hT.1 ((up_n (by omega)).trans hT.2.2.1) (by decide) (c_copyFrom (up8 hT (by omega)) (up8 hr (by omega)) (by omega) (by omega) (by omega)) ?_
  refine p_return dX0_takeBack_46 rfl ?_
  exact ⟨rfl, rfl⟩
theorem c_forget (h : isDe G σ fr sz dN dF) : ConP G mX0_forget 1 [.ref (adr G 8)] σ (rV (va_up σ 8 (ob 0 [.ref (adr G 9), .int (nI fr), .int (nI 0)]))) := by
  obtain ⟨h8, h9, hK, hfr, hsz⟩ := h
  refine ConP.of rfl (Nat.le_of_ble_eq_true rfl) ?_
  refine k_aload_n (pc' := 1) dX0_forget_0 rfl ?_
  refine k_iconst (pc' := 2) (v := nI 0) dX0_forget_1 rfl ?_
  refine p_putI (pc' := 5) clX0 (Nat.le_of_ble_eq_true rfl) fl_RX0_21 dX0_forget_2 rfl (Or.inl rfl) (by first | assumption | decide | omega) (by assumption) (Nat.le_of_ble_eq_true rfl) rfl ?_
  refine p_return dX0_forget_5 rfl ?_
  exact ⟨rfl, rfl⟩
end DEEDS
