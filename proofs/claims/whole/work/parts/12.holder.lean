/-! a Holder: the object at t, its numbers at t + 1 -/
def isH (G : GT) (σ : Sto) (t kd op S : Nat) (nu : Nat → Int32) : Prop := t + 1 < kW ∧ σ t = ob 1 [.int (nI kd), .int (nI op), .int (nI S), .ref (adr G (t + 1))] ∧ σ (t + 1) = aI G 20 nu ∧ S ≤ 20
def putH (G : GT) (σ : Sto) (t kd op S : Nat) (nu : Nat → Int32) : Sto := va_up (va_up σ t (ob 1 [.int (nI kd), .int (nI op), .int (nI S), .ref (adr G (t + 1))])) (t + 1) (aI G 20 nu)
def wSum (n : Nat) (nu : Nat → Int32) : Int32 := upn n 0 (fun i a => a + nu i) (nI 0)
def wWid (n : Nat) (nu : Nat → Int32) : Int32 := upn n 0 (fun i a => if a < ab (nu i) then ab (nu i) else a) (nI 0)
abbrev wIn (n : Nat) (nu : Nat → Int32) : Prop := ∀ i, i < n → -3 ≤ (nu i).toInt ∧ (nu i).toInt ≤ 3
def inC (x : Int32) (k : Nat) : Int32 := x >>> (nI (k - 1) &&& 31) &&& nI 1
def tIC (S : Nat) (x : Int32) (nu : Nat → Int32) : Int32 := upn (S - 1) 1 (fun k a => a + inC x k * nu k) (nI 0)
def tS1 (x : Int32) (k : Nat) (a : (Nat → Int32) × Int32) : (Nat → Int32) × Int32 := if inC x k = nI 1 ∧ ¬ a.1 k = 0 then (upd a.1 k (-(a.1 k)), nI 1) else a
def tS (S : Nat) (x : Int32) (nu : Nat → Int32) : (Nat → Int32) × Int32 := upn (S - 1) 1 (tS1 x) (nu, nI 0)
section HOLDER
variable {G : GT} {σ : Sto} {t kd op S : Nat} {nu : Nat → Int32}
theorem putH_t {k o s : Nat} {f : Nat → Int32} : putH G σ t k o s f t = ob 1 [.int (nI k), .int (nI o), .int (nI s), .ref (adr G (t + 1))] := by unfold putH; rw [up_n (by omega), up_s]
theorem putH_f {k o s : Nat} {f : Nat → Int32} : putH G σ t k o s f (t + 1) = aI G 20 f := up_s
theorem putH_n {k o s q : Nat} {f : Nat → Int32} (h : q ≠ t) (h2 : q ≠ t + 1) : putH G σ t k o s f q = σ q := by unfold putH; rw [up_n h2, up_n h]
theorem putH_id (h : isH G σ t kd op S nu) : putH G σ t kd op S nu = σ := by unfold putH; rw [up_id h.2.1, up_id h.2.2.1]
theorem putH_H {k o s : Nat} {f : Nat → Int32} (h : isH G σ t kd op S nu) (hs : s ≤ 20) : isH G (putH G σ t k o s f) t k o s f := ⟨h.1, putH_t, putH_f, hs⟩
theorem putH_of (h : isH G σ t kd op S nu) {k o s : Nat} : va_up σ t (ob 1 [.int (nI k), .int (nI o), .int (nI s), .ref (adr G (t + 1))]) = putH G σ t k o s nu := by
  unfold putH
  exact (up_id ((up_n (by omega)).trans h.2.2.1)).symm
theorem putH_o {k o s k2 o2 s2 : Nat} {f f2 : Nat → Int32} : putH G (putH G σ t k o s f) t k2 o2 s2 f2 = putH G σ t k2 o2 s2 f2 := by
  unfold putH
  rw [up_c (v := aI G 20 f) (by omega), up_up, up_up]
theorem c_take (h : isH G σ t kd op S nu) {k o s L q : Nat} {f : Nat → Int32} (hq : q < kW) (hqt : q ≠ t) (hf : σ q = aI G L f) (hs : s ≤ L) (hs2 : s ≤ 20) (hL : L < 2 ^ 31) : ConP G mX1_take 1 [.ref (adr G t), .int (nI k), .int (nI o), .int (nI s), .ref (adr G q)] σ (rV (putH G σ t k o s (va_cpy f nu 0 0 s))) := by
  have hH := h
  obtain ⟨ht, h0, h1, hS⟩ := h
  have c1 : (nI s).toNatClampNeg = s := nI_clamp (by omega)
  refine ConP.of rfl (Nat.le_of_ble_eq_true rfl) ?_
  refine k_aload_n (pc' := 1) dX1_take_0 rfl ?_
  refine k_iload_n (pc' := 2) dX1_take_1 rfl ?_
  refine p_putI (pc' := 5) clX1 (Nat.le_of_ble_eq_true rfl) fl_RX1_9 dX1_take_2 rfl (Or.inl rfl) (by first | assumption | decide | omega) (by assumption) (Nat.le_of_ble_eq_true rfl) rfl ?_
  refine k_aload_n (pc' := 6) dX1_take_5 rfl ?_
  refine k_iload_n (pc' := 7) dX1_take_6 rfl ?_
  refine p_putI (pc' := 10) (σ1 := va_up σ t (ob 1 [.int (nI k), .int (nI o), .int (nI S), .ref (adr G (t + 1))])) clX1 (Nat.le_of_ble_eq_true rfl) fl_RX1_15 dX1_take_7 rfl (Or.inl rfl) (by first | assumption | decide | omega) up_s (Nat.le_of_ble_eq_true rfl) (by exact up_up) ?_
  refine k_aload_n (pc' := 11) dX1_take_10 rfl ?_
  refine k_iload_n (pc' := 12) dX1_take_11 rfl ?_
  refine k_aload (pc' := 14) dX1_take_12 rfl ?_
  refine p_alen (pc' := 15) dX1_take_14 (by first | assumption | decide | omega) ((up_n hqt).trans hf) ?_
  refine k_bipush (pc' := 17) (v := nI 20) dX1_take_15 rfl ?_
  refine p_min (pc' := 20) (v := nI (if 20 < L then 20 else L)) dX1_take_17 ml_RX1_25 (by decide) (Nat.le_of_ble_eq_true rfl) (by rw [show Int32.ofNat L = nI L from rfl]; by_cases z : 20 < L; rw [if_pos (nI_lt z hL), if_pos z]; rw [if_neg (nI_nlt (by omega) (by omega)), if_neg z]) ?_
  refine p_min (pc' := 23) (v := nI s) dX1_take_20 ml_RX1_25 (by decide) (Nat.le_of_ble_eq_true rfl) (by rw [if_neg (nI_nlt (by split <;> omega) (by split <;> omega))]) ?_
  refine p_putI (pc' := 26) (σ1 := va_up σ t (ob 1 [.int (nI k), .int (nI o), .int (nI s), .ref (adr G (t + 1))])) clX1 (Nat.le_of_ble_eq_true rfl) fl_RX1_18 dX1_take_23 rfl (Or.inl rfl) (by first | assumption | decide | omega) up_s (Nat.le_of_ble_eq_true rfl) (by exact up_up) ?_
  refine k_aload (pc' := 28) dX1_take_26 rfl ?_
  refine k_iconst (pc' := 29) (v := nI 0) dX1_take_28 rfl ?_
  refine k_aload_n (pc' := 30) dX1_take_29 rfl ?_
  refine p_get (pc' := 33) clX1 (Nat.le_of_ble_eq_true rfl) fl_RX1_21 dX1_take_30 (by first | assumption | decide | omega) up_s rfl ?_
  refine k_iconst (pc' := 34) (v := nI 0) dX1_take_33 rfl ?_
  refine k_aload_n (pc' := 35) dX1_take_34 rfl ?_
  refine p_get (pc' := 38) clX1 (Nat.le_of_ble_eq_true rfl) fl_RX1_18 dX1_take_35 (by first | assumption | decide | omega) up_s rfl ?_
  refine p_copyi (pc' := 41) dX1_take_38 ml_RX1_31 (by decide) (Nat.le_of_ble_eq_true rfl) hq ((up_n hqt).trans hf) (by omega) ((up_n (by omega)).trans h1) (by decide) (by decide) (nI_pos (by omega)) (by rw [c1, show (nI 0).toNatClampNeg = 0 from rfl]; omega) (by rw [c1, show (nI 0).toNatClampNeg = 0 from rfl]; omega) ?_
  rw [c1]
  refine p_return dX1_take_41 rfl ?_
  exact ⟨rfl, rfl⟩
theorem c_becomeRow (h : isH G σ t kd op S nu) {s : Nat} (hs : s ≤ 20) : ConP G mX1_becomeRow 1 [.ref (adr G t), .int (nI s)] σ (rV (putH G σ t 3 0 s (zf 20 nu))) := by
  have hH := h
  obtain ⟨ht, h0, h1, hS⟩ := h
  refine ConP.of rfl (Nat.le_of_ble_eq_true rfl) ?_
  refine k_aload_n (pc' := 1) dX1_becomeRow_0 rfl ?_
  refine k_iconst (pc' := 2) (v := nI 3) dX1_becomeRow_1 rfl ?_
  refine p_putI (pc' := 5) clX1 (Nat.le_of_ble_eq_true rfl) fl_RX1_9 dX1_becomeRow_2 rfl (Or.inl rfl) (by first | assumption | decide | omega) (by assumption) (Nat.le_of_ble_eq_true rfl) rfl ?_
  refine k_aload_n (pc' := 6) dX1_becomeRow_5 rfl ?_
  refine k_iconst (pc' := 7) (v := nI 0) dX1_becomeRow_6 rfl ?_
  refine p_putI (pc' := 10) (σ1 := va_up σ t (ob 1 [.int (nI 3), .int (nI 0), .int (nI S), .ref (adr G (t + 1))])) clX1 (Nat.le_of_ble_eq_true rfl) fl_RX1_15 dX1_becomeRow_7 rfl (Or.inl rfl) (by first | assumption | decide | omega) up_s (Nat.le_of_ble_eq_true rfl) (by exact up_up) ?_
  refine k_aload_n (pc' := 11) dX1_becomeRow_10 rfl ?_
  refine k_iload_n (pc' := 12) dX1_becomeRow_11 rfl ?_
  refine p_putI (pc' := 15) (σ1 := putH G σ t 3 0 s nu) clX1 (Nat.le_of_ble_eq_true rfl) fl_RX1_18 dX1_becomeRow_12 rfl (Or.inl rfl) (by first | assumption | decide | omega) up_s (Nat.le_of_ble_eq_true rfl) (by exact (up_up.trans (putH_of hH))) ?_
  refine k_iconst (pc' := 16) (v := nI 0) dX1_becomeRow_15 rfl ?_
  refine k_istore_n (pc' := 17) dX1_becomeRow_16 (Nat.le_of_ble_eq_true rfl) rfl ?_
  refine loopU (fun p f => OkP G mX1_becomeRow 1 (rV (putH G σ t 3 0 s (zf 20 nu))) 17 [some (.ref (adr G t)), some (.int (nI s)), some (.int (nI p))] [] (putH G σ t 3 0 s f)) (fun p f => upd f p (nI 0)) 20 0 20 nu (by omega) ?_ ?_
  · intro p f _ hp ih
    refine k_iload_n (pc' := 18) dX1_becomeRow_17 rfl ?_
    refine k_bipush (pc' := 20) (v := nI 20) dX1_becomeRow_18 rfl ?_
    refine k_icmp_ge (tgt := 36) (pc' := 23) dX1_becomeRow_20 rfl (fun zz_ => absurd zz_ (nI_ge (by omega) (by omega))) (fun _ => ?_)
    refine k_aload_n (pc' := 24) dX1_becomeRow_23 rfl ?_
    refine p_get (pc' := 27) clX1 (Nat.le_of_ble_eq_true rfl) fl_RX1_21 dX1_becomeRow_24 (by first | assumption | decide | omega) putH_t rfl ?_
    refine k_iload_n (pc' := 28) dX1_becomeRow_27 rfl ?_
    refine k_iconst (pc' := 29) (v := nI 0) dX1_becomeRow_28 rfl ?_
    refine p_iastN (pc' := 30) (σ1 := putH G σ t 3 0 s (upd f p (nI 0))) dX1_becomeRow_29 (by first | assumption | decide | omega) putH_f (by first | decide | omega) (by omega) (by exact up_up) ?_
    refine k_iinc (pc' := 33) (v := nI (p + 1)) dX1_becomeRow_30 rfl (nI_inc _) (Nat.le_of_ble_eq_true rfl) rfl ?_
    refine k_goto (tgt := 17) dX1_becomeRow_33 rfl ?_
    exact ih
  · refine k_iload_n (pc' := 18) dX1_becomeRow_17 rfl ?_
    refine k_bipush (pc' := 20) (v := nI 20) dX1_becomeRow_18 rfl ?_
    refine k_icmp_ge (tgt := 36) (pc' := 23) dX1_becomeRow_20 rfl (fun _ => ?_) (fun zz_ => absurd (nI_le (by omega) (by omega)) zz_)
    refine p_return dX1_becomeRow_36 rfl ?_
    exact ⟨rfl, rfl⟩
theorem c_hasNumber (h : isH G σ t kd op S nu) (x : Int32) : ConP G mX1_hasNumber 1 [.ref (adr G t), .int x] σ (rI (bI (0 ≤ x.toInt ∧ x.toInt < S)) σ) := by
  obtain ⟨ht, h0, h1, hS⟩ := h
  refine ConP.of rfl (Nat.le_of_ble_eq_true rfl) ?_
  refine k_iload_n (pc' := 1) dX1_hasNumber_0 rfl ?_
  refine k_if_lt (tgt := 16) (pc' := 4) dX1_hasNumber_1 rfl (fun c_1 => ?_) (fun c_1 => ?_)
  · rw [iLt, i0] at c_1
    refine k_iconst (pc' := 17) (v := nI 0) dX1_hasNumber_16 rfl ?_
    refine p_zreturn dX1_hasNumber_17 rfl (by first | exact Or.inl rfl | exact Or.inr rfl) ?_
    exact ⟨by rw [bI_f (by omega)]; rfl, rfl⟩
  rw [iLt, i0] at c_1
  refine k_iload_n (pc' := 5) dX1_hasNumber_4 rfl ?_
  refine k_aload_n (pc' := 6) dX1_hasNumber_5 rfl ?_
  refine p_get (pc' := 9) clX1 (Nat.le_of_ble_eq_true rfl) fl_RX1_18 dX1_hasNumber_6 (by first | assumption | decide | omega) (by assumption) rfl ?_
  refine k_icmp_ge (tgt := 16) (pc' := 12) dX1_hasNumber_9 rfl (fun c_9 => ?_) (fun c_9 => ?_)
  · rw [iLe, nI_e (by omega)] at c_9
    refine k_iconst (pc' := 17) (v := nI 0) dX1_hasNumber_16 rfl ?_
    refine p_zreturn dX1_hasNumber_17 rfl (by first | exact Or.inl rfl | exact Or.inr rfl) ?_
    exact ⟨by rw [bI_f (by omega)]; rfl, rfl⟩
  rw [iLe, nI_e (by omega)] at c_9
  refine k_iconst (pc' := 13) (v := nI 1) dX1_hasNumber_12 rfl ?_
  refine k_goto (tgt := 17) dX1_hasNumber_13 rfl ?_
  refine p_zreturn dX1_hasNumber_17 rfl (by first | exact Or.inl rfl | exact Or.inr rfl) ?_
  exact ⟨by rw [bI_t (by omega)]; rfl, rfl⟩
theorem c_hoTogether (h : isH G σ t kd op S nu) : ConP G mX1_together 1 [.ref (adr G t)] σ (rI (wSum S nu) σ) := by
  obtain ⟨ht, h0, h1, hS⟩ := h
  refine ConP.of rfl (Nat.le_of_ble_eq_true rfl) ?_
  refine k_iconst (pc' := 1) (v := nI 0) dX1_together_0 rfl ?_
  refine k_istore_n (pc' := 2) dX1_together_1 (Nat.le_of_ble_eq_true rfl) rfl ?_
  refine k_iconst (pc' := 3) (v := nI 0) dX1_together_2 rfl ?_
  refine k_istore_n (pc' := 4) dX1_together_3 (Nat.le_of_ble_eq_true rfl) rfl ?_
  refine loopU (fun p a => OkP G mX1_together 1 (rI (wSum S nu) σ) 4 [some (.ref (adr G t)), some (.int a), some (.int (nI p))] [] σ) (fun i a => a + nu i) S 0 S (nI 0) (by omega) ?_ ?_
  · intro p a _ hp ih
    refine k_iload_n (pc' := 5) dX1_together_4 rfl ?_
    refine k_aload_n (pc' := 6) dX1_together_5 rfl ?_
    refine p_get (pc' := 9) clX1 (Nat.le_of_ble_eq_true rfl) fl_RX1_18 dX1_together_6 (by first | assumption | decide | omega) (by assumption) rfl ?_
    refine k_icmp_ge (tgt := 27) (pc' := 12) dX1_together_9 rfl (fun zz_ => absurd zz_ (nI_ge (by omega) (by omega))) (fun _ => ?_)
    refine k_iload_n (pc' := 13) dX1_together_12 rfl ?_
    refine k_aload_n (pc' := 14) dX1_together_13 rfl ?_
    refine p_get (pc' := 17) clX1 (Nat.le_of_ble_eq_true rfl) fl_RX1_21 dX1_together_14 (by first | assumption | decide | omega) (by assumption) rfl ?_
    refine k_iload_n (pc' := 18) dX1_together_17 rfl ?_
    refine p_ialdN (pc' := 19) dX1_together_18 (by first | assumption | decide | omega) (by assumption) (by first | decide | omega) (by omega) ?_
    refine k_iadd (pc' := 20) dX1_together_19 rfl ?_
    refine k_istore_n (pc' := 21) dX1_together_20 (Nat.le_of_ble_eq_true rfl) rfl ?_
    refine k_iinc (pc' := 24) (v := nI (p + 1)) dX1_together_21 rfl (nI_inc _) (Nat.le_of_ble_eq_true rfl) rfl ?_
    refine k_goto (tgt := 4) dX1_together_24 rfl ?_
    exact ih
  · refine k_iload_n (pc' := 5) dX1_together_4 rfl ?_
    refine k_aload_n (pc' := 6) dX1_together_5 rfl ?_
    refine p_get (pc' := 9) clX1 (Nat.le_of_ble_eq_true rfl) fl_RX1_18 dX1_together_6 (by first | assumption | decide | omega) (by assumption) rfl ?_
    refine k_icmp_ge (tgt := 27) (pc' := 12) dX1_together_9 rfl (fun _ => ?_) (fun zz_ => absurd (nI_le (by omega) (by omega)) zz_)
    refine k_iload_n (pc' := 28) dX1_together_27 rfl ?_
    refine p_ireturn dX1_together_28 rfl ?_
    exact ⟨rfl, rfl⟩
theorem c_width (h : isH G σ t kd op S nu) : ConP G mX1_width 1 [.ref (adr G t)] σ (rI (wWid S nu) σ) := by
  obtain ⟨ht, h0, h1, hS⟩ := h
  refine ConP.of rfl (Nat.le_of_ble_eq_true rfl) ?_
  refine k_iconst (pc' := 1) (v := nI 0) dX1_width_0 rfl ?_
  refine k_istore_n (pc' := 2) dX1_width_1 (Nat.le_of_ble_eq_true rfl) rfl ?_
  refine k_iconst (pc' := 3) (v := nI 0) dX1_width_2 rfl ?_
  refine k_istore_n (pc' := 4) dX1_width_3 (Nat.le_of_ble_eq_true rfl) rfl ?_
  refine loopU (fun p a => OkP G mX1_width 1 (rI (wWid S nu) σ) 4 [some (.ref (adr G t)), some (.int a), some (.int (nI p))] [] σ) (fun i a => if a < ab (nu i) then ab (nu i) else a) S 0 S (nI 0) (by omega) ?_ ?_
  · intro p a _ hp ih
    refine k_iload_n (pc' := 5) dX1_width_4 rfl ?_
    refine k_aload_n (pc' := 6) dX1_width_5 rfl ?_
    refine p_get (pc' := 9) clX1 (Nat.le_of_ble_eq_true rfl) fl_RX1_18 dX1_width_6 (by first | assumption | decide | omega) (by assumption) rfl ?_
    refine k_icmp_ge (tgt := 32) (pc' := 12) dX1_width_9 rfl (fun zz_ => absurd zz_ (nI_ge (by omega) (by omega))) (fun _ => ?_)
    refine k_iload_n (pc' := 13) dX1_width_12 rfl ?_
    refine k_aload_n (pc' := 14) dX1_width_13 rfl ?_
    refine p_get (pc' := 17) clX1 (Nat.le_of_ble_eq_true rfl) fl_RX1_21 dX1_width_14 (by first | assumption | decide | omega) (by assumption) rfl ?_
    refine k_iload_n (pc' := 18) dX1_width_17 rfl ?_
    refine p_ialdN (pc' := 19) dX1_width_18 (by first | assumption | decide | omega) (by assumption) (by first | decide | omega) (by omega) ?_
    refine p_abs (pc' := 22) dX1_width_19 ml_RX1_37 (by decide) (Nat.le_of_ble_eq_true rfl) rfl ?_
    refine p_max (pc' := 25) dX1_width_22 ml_RX1_41 (by decide) (Nat.le_of_ble_eq_true rfl) rfl ?_
    refine k_istore_n (pc' := 26) dX1_width_25 (Nat.le_of_ble_eq_true rfl) rfl ?_
    refine k_iinc (pc' := 29) (v := nI (p + 1)) dX1_width_26 rfl (nI_inc _) (Nat.le_of_ble_eq_true rfl) rfl ?_
    refine k_goto (tgt := 4) dX1_width_29 rfl ?_
    exact ih
  · refine k_iload_n (pc' := 5) dX1_width_4 rfl ?_
    refine k_aload_n (pc' := 6) dX1_width_5 rfl ?_
    refine p_get (pc' := 9) clX1 (Nat.le_of_ble_eq_true rfl) fl_RX1_18 dX1_width_6 (by first | assumption | decide | omega) (by assumption) rfl ?_
    refine k_icmp_ge (tgt := 32) (pc' := 12) dX1_width_9 rfl (fun _ => ?_) (fun zz_ => absurd (nI_le (by omega) (by omega)) zz_)
    refine k_iload_n (pc' := 33) dX1_width_32 rfl ?_
    refine p_ireturn dX1_width_33 rfl ?_
    exact ⟨rfl, rfl⟩
theorem c_tellsWall (h : isH G σ t kd op S nu) {n : Nat} (hn : n < 2 ^ 31) : ConP G mX1_tellsWall 1 [.ref (adr G t), .int (nI n)] σ (rI (bI (n ≤ S ∧ wIn n nu ∧ wSum n nu = 1)) σ) := by
  obtain ⟨ht, h0, h1, hS⟩ := h
  refine ConP.of rfl (Nat.le_of_ble_eq_true rfl) ?_
  by_cases hnS : n ≤ S
  · refine k_aload_n (pc' := 1) dX1_tellsWall_0 rfl ?_
    refine p_get (pc' := 4) clX1 (Nat.le_of_ble_eq_true rfl) fl_RX1_18 dX1_tellsWall_1 (by first | assumption | decide | omega) (by assumption) rfl ?_
    refine k_iload_n (pc' := 5) dX1_tellsWall_4 rfl ?_
    refine k_icmp_ge (tgt := 10) (pc' := 8) dX1_tellsWall_5 rfl (fun _ => ?_) (fun zz_ => absurd (nI_le (by omega) (by omega)) zz_)
    refine k_iconst (pc' := 11) (v := nI 0) dX1_tellsWall_10 rfl ?_
    refine k_istore_n (pc' := 12) dX1_tellsWall_11 (Nat.le_of_ble_eq_true rfl) rfl ?_
    refine k_iconst (pc' := 13) (v := nI 0) dX1_tellsWall_12 rfl ?_
    refine k_istore_n (pc' := 14) dX1_tellsWall_13 (Nat.le_of_ble_eq_true rfl) rfl ?_
    have main : ∀ m p a, p + m = n → (∀ q, q < p → -3 ≤ (nu q).toInt ∧ (nu q).toInt ≤ 3) → upn m p (fun i a => a + nu i) a = wSum n nu → OkP G mX1_tellsWall 1 (rI (bI (n ≤ S ∧ wIn n nu ∧ wSum n nu = 1)) σ) 14 [some (.ref (adr G t)), some (.int (nI n)), some (.int a), some (.int (nI p))] [] σ := by
      intro m
      induction m with
      | zero =>
        intro p a hp hq ha
        refine k_iload_n (pc' := 15) dX1_tellsWall_14 rfl ?_
        refine k_iload_n (pc' := 16) dX1_tellsWall_15 rfl ?_
        refine k_icmp_ge (tgt := 57) (pc' := 19) dX1_tellsWall_16 rfl (fun _ => ?_) (fun zz_ => absurd (nI_le (by omega) (by omega)) zz_)
        refine k_iload_n (pc' := 58) dX1_tellsWall_57 rfl ?_
        refine k_iconst (pc' := 59) (v := nI 1) dX1_tellsWall_58 rfl ?_
        refine k_icmp_ne (tgt := 66) (pc' := 62) dX1_tellsWall_59 rfl (fun c_59 => ?_) (fun c_59 => ?_)
        · refine k_iconst (pc' := 67) (v := nI 0) dX1_tellsWall_66 rfl ?_
          refine p_zreturn dX1_tellsWall_67 rfl (by first | exact Or.inl rfl | exact Or.inr rfl) ?_
          exact ⟨by rw [bI_f (fun z => c_59 (ha.trans z.2.2))]; rfl, rfl⟩
        · refine k_iconst (pc' := 63) (v := nI 1) dX1_tellsWall_62 rfl ?_
          refine k_goto (tgt := 67) dX1_tellsWall_63 rfl ?_
          refine p_zreturn dX1_tellsWall_67 rfl (by first | exact Or.inl rfl | exact Or.inr rfl) ?_
          exact ⟨by rw [bI_t ⟨hnS, fun i hi => hq i (by omega), by rw [← ha]; exact c_59⟩]; rfl, rfl⟩
      | succ m ih =>
        intro p a hp hq ha
        refine k_iload_n (pc' := 15) dX1_tellsWall_14 rfl ?_
        refine k_iload_n (pc' := 16) dX1_tellsWall_15 rfl ?_
        refine k_icmp_ge (tgt := 57) (pc' := 19) dX1_tellsWall_16 rfl (fun zz_ => absurd zz_ (nI_ge (by omega) (by omega))) (fun _ => ?_)
        refine k_aload_n (pc' := 20) dX1_tellsWall_19 rfl ?_
        refine p_get (pc' := 23) clX1 (Nat.le_of_ble_eq_true rfl) fl_RX1_21 dX1_tellsWall_20 (by first | assumption | decide | omega) (by assumption) rfl ?_
        refine k_iload_n (pc' := 24) dX1_tellsWall_23 rfl ?_
        refine p_ialdN (pc' := 25) dX1_tellsWall_24 (by first | assumption | decide | omega) (by assumption) (by first | decide | omega) (by omega) ?_
        refine k_bipush (pc' := 27) (v := -3) dX1_tellsWall_25 rfl ?_
        refine k_icmp_lt (tgt := 40) (pc' := 30) dX1_tellsWall_27 rfl (fun c_27 => ?_) (fun c_27 => ?_)
        · rw [iLt, show (-3 : Int32).toInt = -3 from rfl] at c_27
          refine k_iconst (pc' := 41) (v := nI 0) dX1_tellsWall_40 rfl ?_
          refine p_zreturn dX1_tellsWall_41 rfl (by first | exact Or.inl rfl | exact Or.inr rfl) ?_
          exact ⟨by rw [bI_f (fun z => by have := z.2.1 p (by omega); omega)]; rfl, rfl⟩
        rw [iLt, show (-3 : Int32).toInt = -3 from rfl] at c_27
        refine k_aload_n (pc' := 31) dX1_tellsWall_30 rfl ?_
        refine p_get (pc' := 34) clX1 (Nat.le_of_ble_eq_true rfl) fl_RX1_21 dX1_tellsWall_31 (by first | assumption | decide | omega) (by assumption) rfl ?_
        refine k_iload_n (pc' := 35) dX1_tellsWall_34 rfl ?_
        refine p_ialdN (pc' := 36) dX1_tellsWall_35 (by first | assumption | decide | omega) (by assumption) (by first | decide | omega) (by omega) ?_
        refine k_iconst (pc' := 37) (v := nI 3) dX1_tellsWall_36 rfl ?_
        refine k_icmp_le (tgt := 42) (pc' := 40) dX1_tellsWall_37 rfl (fun c_37 => ?_) (fun c_37 => ?_)
        · rw [iLe, nI_e (by decide)] at c_37
          refine k_iload_n (pc' := 43) dX1_tellsWall_42 rfl ?_
          refine k_aload_n (pc' := 44) dX1_tellsWall_43 rfl ?_
          refine p_get (pc' := 47) clX1 (Nat.le_of_ble_eq_true rfl) fl_RX1_21 dX1_tellsWall_44 (by first | assumption | decide | omega) (by assumption) rfl ?_
          refine k_iload_n (pc' := 48) dX1_tellsWall_47 rfl ?_
          refine p_ialdN (pc' := 49) dX1_tellsWall_48 (by first | assumption | decide | omega) (by assumption) (by first | decide | omega) (by omega) ?_
          refine k_iadd (pc' := 50) dX1_tellsWall_49 rfl ?_
          refine k_istore_n (pc' := 51) dX1_tellsWall_50 (Nat.le_of_ble_eq_true rfl) rfl ?_
          refine k_iinc (pc' := 54) (v := nI (p + 1)) dX1_tellsWall_51 rfl (nI_inc _) (Nat.le_of_ble_eq_true rfl) rfl ?_
          refine k_goto (tgt := 14) dX1_tellsWall_54 rfl ?_
          exact ih (p + 1) _ (by omega) (fun q h => by
            rcases Nat.lt_or_ge q p with h2 | h2
            · exact hq q h2
            · have : q = p := by omega
              subst this
              exact ⟨by omega, c_37⟩) ha
        · rw [iLe, nI_e (by decide)] at c_37
          refine k_iconst (pc' := 41) (v := nI 0) dX1_tellsWall_40 rfl ?_
          refine p_zreturn dX1_tellsWall_41 rfl (by first | exact Or.inl rfl | exact Or.inr rfl) ?_
          exact ⟨by rw [bI_f (fun z => by have := z.2.1 p (by omega); omega)]; rfl, rfl⟩
    exact main n 0 (nI 0) (by omega) (fun q h => by omega) rfl
  · refine k_aload_n (pc' := 1) dX1_tellsWall_0 rfl ?_
    refine p_get (pc' := 4) clX1 (Nat.le_of_ble_eq_true rfl) fl_RX1_18 dX1_tellsWall_1 (by first | assumption | decide | omega) (by assumption) rfl ?_
    refine k_iload_n (pc' := 5) dX1_tellsWall_4 rfl ?_
    refine k_icmp_ge (tgt := 10) (pc' := 8) dX1_tellsWall_5 rfl (fun zz_ => absurd zz_ (nI_ge (by omega) (by omega))) (fun _ => ?_)
    refine k_iconst (pc' := 9) (v := nI 0) dX1_tellsWall_8 rfl ?_
    refine p_zreturn dX1_tellsWall_9 rfl (by first | exact Or.inl rfl | exact Or.inr rfl) ?_
    exact ⟨by rw [bI_f (fun z => hnS z.1)]; rfl, rfl⟩
theorem c_togetherInCut (h : isH G σ t kd op S nu) (hS1 : 1 ≤ S) (x : Int32) : ConP G mX1_togetherInCut 1 [.ref (adr G t), .int x] σ (rI (tIC S x nu) σ) := by
  obtain ⟨ht, h0, h1, hS⟩ := h
  refine ConP.of rfl (Nat.le_of_ble_eq_true rfl) ?_
  refine k_iconst (pc' := 1) (v := nI 0) dX1_togetherInCut_0 rfl ?_
  refine k_istore_n (pc' := 2) dX1_togetherInCut_1 (Nat.le_of_ble_eq_true rfl) rfl ?_
  refine k_iconst (pc' := 3) (v := nI 1) dX1_togetherInCut_2 rfl ?_
  refine k_istore_n (pc' := 4) dX1_togetherInCut_3 (Nat.le_of_ble_eq_true rfl) rfl ?_
  refine loopU (fun p a => OkP G mX1_togetherInCut 1 (rI (tIC S x nu) σ) 4 [some (.ref (adr G t)), some (.int x), some (.int a), some (.int (nI p))] [] σ) (fun k a => a + inC x k * nu k) S 1 (S - 1) (nI 0) (by omega) ?_ ?_
  · intro p a hp1 hp ih
    refine k_iload_n (pc' := 5) dX1_togetherInCut_4 rfl ?_
    refine k_aload_n (pc' := 6) dX1_togetherInCut_5 rfl ?_
    refine p_get (pc' := 9) clX1 (Nat.le_of_ble_eq_true rfl) fl_RX1_18 dX1_togetherInCut_6 (by first | assumption | decide | omega) (by assumption) rfl ?_
    refine k_icmp_ge (tgt := 35) (pc' := 12) dX1_togetherInCut_9 rfl (fun zz_ => absurd zz_ (nI_ge (by omega) (by omega))) (fun _ => ?_)
    refine k_iload_n (pc' := 13) dX1_togetherInCut_12 rfl ?_
    refine k_iload_n (pc' := 14) dX1_togetherInCut_13 rfl ?_
    refine k_iload_n (pc' := 15) dX1_togetherInCut_14 rfl ?_
    refine k_iconst (pc' := 16) (v := nI 1) dX1_togetherInCut_15 rfl ?_
    refine k_isub (pc' := 17) (v := nI (p - 1)) dX1_togetherInCut_16 (pk_sub (by omega)) ?_
    refine k_ishr (pc' := 18) dX1_togetherInCut_17 rfl ?_
    refine k_iconst (pc' := 19) (v := nI 1) dX1_togetherInCut_18 rfl ?_
    refine k_iand (pc' := 20) dX1_togetherInCut_19 rfl ?_
    refine k_aload_n (pc' := 21) dX1_togetherInCut_20 rfl ?_
    refine p_get (pc' := 24) clX1 (Nat.le_of_ble_eq_true rfl) fl_RX1_21 dX1_togetherInCut_21 (by first | assumption | decide | omega) (by assumption) rfl ?_
    refine k_iload_n (pc' := 25) dX1_togetherInCut_24 rfl ?_
    refine p_ialdN (pc' := 26) dX1_togetherInCut_25 (by first | assumption | decide | omega) (by assumption) (by first | decide | omega) (by omega) ?_
    refine k_imul (pc' := 27) dX1_togetherInCut_26 rfl ?_
    refine k_iadd (pc' := 28) dX1_togetherInCut_27 rfl ?_
    refine k_istore_n (pc' := 29) dX1_togetherInCut_28 (Nat.le_of_ble_eq_true rfl) rfl ?_
    refine k_iinc (pc' := 32) (v := nI (p + 1)) dX1_togetherInCut_29 rfl (nI_inc _) (Nat.le_of_ble_eq_true rfl) rfl ?_
    refine k_goto (tgt := 4) dX1_togetherInCut_32 rfl ?_
    exact ih
  · refine k_iload_n (pc' := 5) dX1_togetherInCut_4 rfl ?_
    refine k_aload_n (pc' := 6) dX1_togetherInCut_5 rfl ?_
    refine p_get (pc' := 9) clX1 (Nat.le_of_ble_eq_true rfl) fl_RX1_18 dX1_togetherInCut_6 (by first | assumption | decide | omega) (by assumption) rfl ?_
    refine k_icmp_ge (tgt := 35) (pc' := 12) dX1_togetherInCut_9 rfl (fun _ => ?_) (fun zz_ => absurd (nI_le (by omega) (by omega)) zz_)
    refine k_iload_n (pc' := 36) dX1_togetherInCut_35 rfl ?_
    refine p_ireturn dX1_togetherInCut_36 rfl ?_
    exact ⟨rfl, rfl⟩
theorem c_turnSigns (h : isH G σ t kd op S nu) (hS1 : 1 ≤ S) (x : Int32) : ConP G mX1_turnSigns 1 [.ref (adr G t), .int x] σ (rI (tS S x nu).2 (putH G σ t kd op S (tS S x nu).1)) := by
  have hH := h
  obtain ⟨ht, h0, h1, hS⟩ := h
  refine ConP.of rfl (Nat.le_of_ble_eq_true rfl) ?_
  refine k_iconst (pc' := 1) (v := nI 0) dX1_turnSigns_0 rfl ?_
  refine k_istore_n (pc' := 2) dX1_turnSigns_1 (Nat.le_of_ble_eq_true rfl) rfl ?_
  refine k_iconst (pc' := 3) (v := nI 1) dX1_turnSigns_2 rfl ?_
  refine k_istore_n (pc' := 4) dX1_turnSigns_3 (Nat.le_of_ble_eq_true rfl) rfl ?_
  have key := loopU (fun p (a : (Nat → Int32) × Int32) => (a.2 = 0 ∨ a.2 = 1) → OkP G mX1_turnSigns 1 (rI (tS S x nu).2 (putH G σ t kd op S (tS S x nu).1)) 4 [some (.ref (adr G t)), some (.int x), some (.int a.2), some (.int (nI p))] [] (putH G σ t kd op S a.1)) (tS1 x) S 1 (S - 1) (nu, nI 0) (by omega) ?_ ?_ (Or.inl rfl)
  · rw [putH_id hH] at key
    exact key
  · intro p a hp1 hp ih h01
    by_cases hb : inC x p = nI 1
    · by_cases hz : a.1 p = 0
      · rw [show tS1 x p a = a from if_neg (fun z => z.2 hz)] at ih
        refine k_iload_n (pc' := 5) dX1_turnSigns_4 rfl ?_
        refine k_aload_n (pc' := 6) dX1_turnSigns_5 rfl ?_
        refine p_get (pc' := 9) clX1 (Nat.le_of_ble_eq_true rfl) fl_RX1_18 dX1_turnSigns_6 (by first | assumption | decide | omega) putH_t rfl ?_
        refine k_icmp_ge (tgt := 53) (pc' := 12) dX1_turnSigns_9 rfl (fun zz_ => absurd zz_ (nI_ge (by omega) (by omega))) (fun _ => ?_)
        refine k_iload_n (pc' := 13) dX1_turnSigns_12 rfl ?_
        refine k_iload_n (pc' := 14) dX1_turnSigns_13 rfl ?_
        refine k_iconst (pc' := 15) (v := nI 1) dX1_turnSigns_14 rfl ?_
        refine k_isub (pc' := 16) (v := nI (p - 1)) dX1_turnSigns_15 (pk_sub (by omega)) ?_
        refine k_ishr (pc' := 17) dX1_turnSigns_16 rfl ?_
        refine k_iconst (pc' := 18) (v := nI 1) dX1_turnSigns_17 rfl ?_
        refine k_iand (pc' := 19) dX1_turnSigns_18 rfl ?_
        refine k_iconst (pc' := 20) (v := nI 1) dX1_turnSigns_19 rfl ?_
        refine k_icmp_ne (tgt := 47) (pc' := 23) dX1_turnSigns_20 rfl (fun zz_ => absurd hb zz_) (fun _ => ?_)
        refine k_aload_n (pc' := 24) dX1_turnSigns_23 rfl ?_
        refine p_get (pc' := 27) clX1 (Nat.le_of_ble_eq_true rfl) fl_RX1_21 dX1_turnSigns_24 (by first | assumption | decide | omega) putH_t rfl ?_
        refine k_iload_n (pc' := 28) dX1_turnSigns_27 rfl ?_
        refine p_ialdN (pc' := 29) dX1_turnSigns_28 (by first | assumption | decide | omega) putH_f (by first | decide | omega) (by omega) ?_
        refine k_if_eq (tgt := 47) (pc' := 32) dX1_turnSigns_29 rfl (fun _ => ?_) (fun zz_ => absurd hz zz_)
        refine k_iinc (pc' := 50) (v := nI (p + 1)) dX1_turnSigns_47 rfl (nI_inc _) (Nat.le_of_ble_eq_true rfl) rfl ?_
        refine k_goto (tgt := 4) dX1_turnSigns_50 rfl ?_
        exact ih h01
      · rw [show tS1 x p a = (upd a.1 p (-(a.1 p)), nI 1) from if_pos ⟨hb, hz⟩] at ih
        refine k_iload_n (pc' := 5) dX1_turnSigns_4 rfl ?_
        refine k_aload_n (pc' := 6) dX1_turnSigns_5 rfl ?_
        refine p_get (pc' := 9) clX1 (Nat.le_of_ble_eq_true rfl) fl_RX1_18 dX1_turnSigns_6 (by first | assumption | decide | omega) putH_t rfl ?_
        refine k_icmp_ge (tgt := 53) (pc' := 12) dX1_turnSigns_9 rfl (fun zz_ => absurd zz_ (nI_ge (by omega) (by omega))) (fun _ => ?_)
        refine k_iload_n (pc' := 13) dX1_turnSigns_12 rfl ?_
        refine k_iload_n (pc' := 14) dX1_turnSigns_13 rfl ?_
        refine k_iconst (pc' := 15) (v := nI 1) dX1_turnSigns_14 rfl ?_
        refine k_isub (pc' := 16) (v := nI (p - 1)) dX1_turnSigns_15 (pk_sub (by omega)) ?_
        refine k_ishr (pc' := 17) dX1_turnSigns_16 rfl ?_
        refine k_iconst (pc' := 18) (v := nI 1) dX1_turnSigns_17 rfl ?_
        refine k_iand (pc' := 19) dX1_turnSigns_18 rfl ?_
        refine k_iconst (pc' := 20) (v := nI 1) dX1_turnSigns_19 rfl ?_
        refine k_icmp_ne (tgt := 47) (pc' := 23) dX1_turnSigns_20 rfl (fun zz_ => absurd hb zz_) (fun _ => ?_)
        refine k_aload_n (pc' := 24) dX1_turnSigns_23 rfl ?_
        refine p_get (pc' := 27) clX1 (Nat.le_of_ble_eq_true rfl) fl_RX1_21 dX1_turnSigns_24 (by first | assumption | decide | omega) putH_t rfl ?_
        refine k_iload_n (pc' := 28) dX1_turnSigns_27 rfl ?_
        refine p_ialdN (pc' := 29) dX1_turnSigns_28 (by first | assumption | decide | omega) putH_f (by first | decide | omega) (by omega) ?_
        refine k_if_eq (tgt := 47) (pc' := 32) dX1_turnSigns_29 rfl (fun zz_ => absurd zz_ hz) (fun _ => ?_)
        refine k_aload_n (pc' := 33) dX1_turnSigns_32 rfl ?_
        refine p_get (pc' := 36) clX1 (Nat.le_of_ble_eq_true rfl) fl_RX1_21 dX1_turnSigns_33 (by first | assumption | decide | omega) putH_t rfl ?_
        refine k_iload_n (pc' := 37) dX1_turnSigns_36 rfl ?_
        refine k_aload_n (pc' := 38) dX1_turnSigns_37 rfl ?_
        refine p_get (pc' := 41) clX1 (Nat.le_of_ble_eq_true rfl) fl_RX1_21 dX1_turnSigns_38 (by first | assumption | decide | omega) putH_t rfl ?_
        refine k_iload_n (pc' := 42) dX1_turnSigns_41 rfl ?_
        refine p_ialdN (pc' := 43) dX1_turnSigns_42 (by first | assumption | decide | omega) putH_f (by first | decide | omega) (by omega) ?_
        refine k_ineg (pc' := 44) dX1_turnSigns_43 rfl ?_
        refine p_iastN (pc' := 45) (σ1 := putH G σ t kd op S (upd a.1 p (-(a.1 p)))) dX1_turnSigns_44 (by first | assumption | decide | omega) putH_f (by first | decide | omega) (by omega) (by exact up_up) ?_
        refine k_iconst (pc' := 46) (v := nI 1) dX1_turnSigns_45 rfl ?_
        refine k_istore_n (pc' := 47) dX1_turnSigns_46 (Nat.le_of_ble_eq_true rfl) rfl ?_
        refine k_iinc (pc' := 50) (v := nI (p + 1)) dX1_turnSigns_47 rfl (nI_inc _) (Nat.le_of_ble_eq_true rfl) rfl ?_
        refine k_goto (tgt := 4) dX1_turnSigns_50 rfl ?_
        exact ih (Or.inr rfl)
    · rw [show tS1 x p a = a from if_neg (fun z => hb z.1)] at ih
      refine k_iload_n (pc' := 5) dX1_turnSigns_4 rfl ?_
      refine k_aload_n (pc' := 6) dX1_turnSigns_5 rfl ?_
      refine p_get (pc' := 9) clX1 (Nat.le_of_ble_eq_true rfl) fl_RX1_18 dX1_turnSigns_6 (by first | assumption | decide | omega) putH_t rfl ?_
      refine k_icmp_ge (tgt := 53) (pc' := 12) dX1_turnSigns_9 rfl (fun zz_ => absurd zz_ (nI_ge (by omega) (by omega))) (fun _ => ?_)
      refine k_iload_n (pc' := 13) dX1_turnSigns_12 rfl ?_
      refine k_iload_n (pc' := 14) dX1_turnSigns_13 rfl ?_
      refine k_iconst (pc' := 15) (v := nI 1) dX1_turnSigns_14 rfl ?_
      refine k_isub (pc' := 16) (v := nI (p - 1)) dX1_turnSigns_15 (pk_sub (by omega)) ?_
      refine k_ishr (pc' := 17) dX1_turnSigns_16 rfl ?_
      refine k_iconst (pc' := 18) (v := nI 1) dX1_turnSigns_17 rfl ?_
      refine k_iand (pc' := 19) dX1_turnSigns_18 rfl ?_
      refine k_iconst (pc' := 20) (v := nI 1) dX1_turnSigns_19 rfl ?_
      refine k_icmp_ne (tgt := 47) (pc' := 23) dX1_turnSigns_20 rfl (fun _ => ?_) (fun zz_ => absurd zz_ hb)
      refine k_iinc (pc' := 50) (v := nI (p + 1)) dX1_turnSigns_47 rfl (nI_inc _) (Nat.le_of_ble_eq_true rfl) rfl ?_
      refine k_goto (tgt := 4) dX1_turnSigns_50 rfl ?_
      exact ih h01
  · intro h01
    refine k_iload_n (pc' := 5) dX1_turnSigns_4 rfl ?_
    refine k_aload_n (pc' := 6) dX1_turnSigns_5 rfl ?_
    refine p_get (pc' := 9) clX1 (Nat.le_of_ble_eq_true rfl) fl_RX1_18 dX1_turnSigns_6 (by first | assumption | decide | omega) putH_t rfl ?_
    refine k_icmp_ge (tgt := 53) (pc' := 12) dX1_turnSigns_9 rfl (fun _ => ?_) (fun zz_ => absurd (nI_le (by omega) (by omega)) zz_)
    refine k_iload_n (pc' := 54) dX1_turnSigns_53 rfl ?_
    refine p_zreturn dX1_turnSigns_54 rfl h01 ?_
    exact ⟨rfl, rfl⟩
end HOLDER
