theorem pI_next0 : ∀ N, N < 7 → ∀ i, i < N → pI N i N = pI N (i + 1) (i + 2) := by decide +kernel
theorem pI_up0 : ∀ N, N < 7 → ∀ i, i < N → ∀ j, j < N → i < j → pI N i j + 1 = pI N i (j + 1) := by decide +kernel
theorem pI_00 : ∀ N, N < 7 → pI N 0 1 = 0 := by decide +kernel
def mLy1 (N r : Nat) (x : Int32) (i j : Nat) (t : Nat → Int64) : Nat → Int64 := vp_updL t (15 * r + pI N i j) (if sepP x i j then 1 else 0)
def mLy2 (N r : Nat) (x : Int32) (i : Nat) (t : Nat → Int64) : Nat → Int64 := upn (N - (i + 1)) (i + 1) (mLy1 N r x i) t
def mLy (N r : Nat) (x : Int32) (t : Nat → Int64) : Nat → Int64 := upn N 0 (mLy2 N r x) t
def fnd (t : Nat → Int64) (c : Nat) : Nat → Nat → Nat
  | 0, p => p
  | n + 1, p => if t (15 * p + c) = 0 then fnd t c n (p + 1) else p
def exc1 (p q : Nat) (c : Nat) (t : Nat → Int64) : Nat → Int64 := vp_updL (vp_updL t (15 * p + c) (t (15 * q + c))) (15 * q + c) (t (15 * p + c))
def exc (p q : Nat) (t : Nat → Int64) : Nat → Int64 := upn 15 0 (exc1 p q) t
def el1 (dn r : Nat) (b less last : Int64) (k : Nat) (t : Nat → Int64) : Nat → Int64 := vp_updL t (15 * r + k) ((b * t (15 * r + k) - less * t (15 * dn + k)) / last)
def el2 (dn c : Nat) (b last : Int64) (r : Nat) (t : Nat → Int64) : Nat → Int64 := upn 15 0 (el1 dn r b (t (15 * r + c)) last) t
abbrev RK : Type := (Nat → Int64) × Nat × Int64
def rk1 (rows c : Nat) (s : RK) : RK := if fnd s.1 c (rows - s.2.1) s.2.1 = rows then s else
  (upn (rows - (s.2.1 + 1)) (s.2.1 + 1) (el2 s.2.1 c (exc (fnd s.1 c (rows - s.2.1) s.2.1) s.2.1 s.1 (15 * s.2.1 + c)) s.2.2) (exc (fnd s.1 c (rows - s.2.1) s.2.1) s.2.1 s.1), s.2.1 + 1, exc (fnd s.1 c (rows - s.2.1) s.2.1) s.2.1 s.1 (15 * s.2.1 + c))
def rkA (N rows : Nat) (t : Nat → Int64) : RK := upn (pN N) 0 (rk1 rows) (t, 0, 1)
def mRs1 (N : Nat) (b : Nat → Int32) (s : Nat) (w : Nat × (Nat → Int64)) : Nat × (Nat → Int64) := if mRt N (nI s) b = 0 then (w.1 + 1, mLy N w.1 (nI s) w.2) else w
def mRs (N : Nat) (b : Nat → Int32) (t : Nat → Int64) : Nat × (Nat → Int64) := upn (lC N) 1 (mRs1 N b) (0, t)
theorem updL_s {f : Nat → Int64} {k : Nat} {x : Int64} : vp_updL f k x k = x := pk_uLs
theorem updL_n {f : Nat → Int64} {k j : Nat} {x : Int64} (h : j ≠ k) : vp_updL f k x j = f j := pk_uLn h
theorem fnd_ge {t : Nat → Int64} {c : Nat} : ∀ n p, p ≤ fnd t c n p ∧ fnd t c n p ≤ p + n := by
  intro n
  induction n with
  | zero => intro p; exact ⟨Nat.le_refl _, Nat.le_refl _⟩
  | succ n ih =>
    intro p
    unfold fnd
    by_cases h : t (15 * p + c) = 0
    · rw [if_pos h]
      have := ih (p + 1)
      omega
    · rw [if_neg h]
      omega
theorem fnd_ne {t : Nat → Int64} {c : Nat} : ∀ n p, fnd t c n p < p + n → t (15 * fnd t c n p + c) ≠ 0 := by
  intro n
  induction n with
  | zero => intro p h; exact absurd h (by show ¬ p < p + 0; omega)
  | succ n ih =>
    intro p h
    unfold fnd at h ⊢
    by_cases hz : t (15 * p + c) = 0
    · rw [if_pos hz] at h ⊢
      exact ih (p + 1) (by omega)
    · rw [if_neg hz]
      exact hz
theorem exc_out {p q c : Nat} (hc : c < 15) : ∀ n k (t : Nat → Int64) r, (c < k ∨ k + n ≤ c) → k + n ≤ 15 → upn n k (exc1 p q) t (15 * r + c) = t (15 * r + c) := by
  intro n
  induction n with
  | zero => intros; rfl
  | succ n ih =>
    intro k t r h hk
    show upn n (k + 1) (exc1 p q) (exc1 p q k t) (15 * r + c) = _
    rw [ih (k + 1) _ r (by omega) (by omega)]
    unfold exc1
    rw [updL_n (by omega), updL_n (by omega)]
theorem exc_in {p q c : Nat} (hc : c < 15) : ∀ n k (t : Nat → Int64), k ≤ c → c < k + n → k + n ≤ 15 → upn n k (exc1 p q) t (15 * q + c) = t (15 * p + c) := by
  intro n
  induction n with
  | zero => intro k t h1 h2; omega
  | succ n ih =>
    intro k t h1 h2 h3
    show upn n (k + 1) (exc1 p q) (exc1 p q k t) (15 * q + c) = _
    by_cases h : k = c
    · subst h
      rw [exc_out hc n (k + 1) _ q (by omega) (by omega)]
      unfold exc1
      rw [updL_s]
    · rw [ih (k + 1) _ (by omega) (by omega) (by omega)]
      unfold exc1
      rw [updL_n (by omega), updL_n (by omega)]
section MODEL9
variable {G : GT} {σ : Sto} {N D T : Nat} {z : Nat → Int32} {a : Nat → Nat → Int32} {tb : Nat → Int64}
theorem c_lays (hN : 2 ≤ N) (hN6 : N ≤ 6) {r : Nat} (hr : r < 31) {x : Int32} : ConP G mX10_lays 3 [.ref (adr G 84), .int (nI r), .int x] (putM G σ N D T z a tb) (rV (putM G σ N D T z a (mLy N r x tb))) := by
  refine ConP.of rfl (Nat.le_of_ble_eq_true rfl) ?_
  refine k_iconst (pc' := 1) (v := nI 0) dX10_lays_0 rfl ?_
  refine k_istore_n (pc' := 2) dX10_lays_1 (Nat.le_of_ble_eq_true rfl) rfl ?_
  refine k_iconst (pc' := 3) (v := nI 0) dX10_lays_2 rfl ?_
  refine k_istore (pc' := 5) dX10_lays_3 (Nat.le_of_ble_eq_true rfl) rfl ?_
  have key := loopU (fun i t => ∀ y, OkP G mX10_lays 3 (rV (putM G σ N D T z a (mLy N r x tb))) 5 [some (.ref (adr G 84)), some (.int (nI r)), some (.int x), some (.int (nI (pI N i (i + 1)))), some (.int (nI i)), y] [] (putM G σ N D T z a t)) (mLy2 N r x) N 0 N tb (by omega) ?_ ?_ none
  · rw [show pI N 0 (0 + 1) = 0 from pI_00 N (by omega)] at key
    exact key
  · intro i t _ hi ih y
    refine k_iload (pc' := 7) dX10_lays_5 rfl ?_
    refine k_aload_n (pc' := 8) dX10_lays_7 rfl ?_
    refine p_get (pc' := 11) clX10 (Nat.le_of_ble_eq_true rfl) fl_RX10_9 dX10_lays_8 (by first | assumption | decide | omega) (by first | rfl | assumption) rfl ?_
    refine k_icmp_ge (tgt := 71) (pc' := 14) dX10_lays_11 rfl (fun zz_ => absurd zz_ (nI_ge (by omega) (by omega))) (fun _ => ?_)
    refine k_iload (pc' := 16) dX10_lays_14 rfl ?_
    refine k_iconst (pc' := 17) (v := nI 1) dX10_lays_16 rfl ?_
    refine k_iadd (pc' := 18) dX10_lays_17 (by first | exact nI_add _ _ | rfl) ?_
    refine k_istore (pc' := 20) dX10_lays_18 (Nat.le_of_ble_eq_true rfl) rfl ?_
    refine loopU (fun j t => OkP G mX10_lays 3 (rV (putM G σ N D T z a (mLy N r x tb))) 20 [some (.ref (adr G 84)), some (.int (nI r)), some (.int x), some (.int (nI (pI N i j))), some (.int (nI i)), some (.int (nI j))] [] (putM G σ N D T z a t)) (mLy1 N r x i) N (i + 1) (N - (i + 1)) t (by omega) ?_ ?_
    · intro j t hij hj ih2
      have hlt := pI_lt hN6 hi hj (by omega)
      have hup := pI_up0 N (by omega) i hi j hj (by omega)
      unfold mLy1 at ih2
      by_cases hs : sepP x i j
      · rw [if_pos hs] at ih2
        refine k_iload (pc' := 22) dX10_lays_20 rfl ?_
        refine k_aload_n (pc' := 23) dX10_lays_22 rfl ?_
        refine p_get (pc' := 26) clX10 (Nat.le_of_ble_eq_true rfl) fl_RX10_9 dX10_lays_23 (by first | assumption | decide | omega) (by first | rfl | assumption) rfl ?_
        refine k_icmp_ge (tgt := 65) (pc' := 29) dX10_lays_26 rfl (fun zz_ => absurd zz_ (nI_ge (by omega) (by omega))) (fun _ => ?_)
        refine k_aload_n (pc' := 30) dX10_lays_29 rfl ?_
        refine p_get (pc' := 33) clX10 (Nat.le_of_ble_eq_true rfl) fl_RX10_58 dX10_lays_30 (by first | assumption | decide | omega) (by first | rfl | assumption) rfl ?_
        refine k_bipush (pc' := 35) (v := nI 15) dX10_lays_33 rfl ?_
        refine k_iload_n (pc' := 36) dX10_lays_35 rfl ?_
        refine k_imul (pc' := 37) dX10_lays_36 (by first | exact pk_mul _ _ | rfl) ?_
        refine k_iload_n (pc' := 38) dX10_lays_37 rfl ?_
        refine k_iadd (pc' := 39) dX10_lays_38 (by first | exact nI_add _ _ | rfl) ?_
        refine k_iload_n (pc' := 40) dX10_lays_39 rfl ?_
        refine k_iload (pc' := 42) dX10_lays_40 rfl ?_
        refine k_iload (pc' := 44) dX10_lays_42 rfl ?_
        refine p_sI (ν := mX10_separates) (pc' := 47) dX10_lays_44 ml_RX10_129 mo_X10_separates ms_X10_separates (Nat.le_of_ble_eq_true rfl) rfl rfl (Nat.le_of_ble_eq_true rfl) (by decide) (c_separates (by omega) (by omega)) ?_
        refine k_if_eq (tgt := 54) (pc' := 50) dX10_lays_47 rfl (fun zz_ => absurd zz_ (by rw [bI_eq]; exact fun q => q hs)) (fun _ => ?_)
        refine k_lconst (pc' := 51) (v := 1) dX10_lays_50 rfl ?_
        refine k_goto (tgt := 55) dX10_lays_51 rfl ?_
        refine p_lastN (pc' := 56) dX10_lays_55 (by first | assumption | decide | omega) (by first | rfl | assumption) (by first | decide | omega) (by first | omega | (simp only [mL85, mL86, mL87, mL88, mL89, mL90, mL91, mL92, mL93, mL94, mL95, mL96, mL97, mL98, mL100, mL101, mL102, mL103]; omega)) (by exact pMt) ?_
        refine k_iinc (pc' := 59) (v := nI (pI N i (j + 1))) dX10_lays_56 rfl (by rw [← hup]; exact nI_inc _) (Nat.le_of_ble_eq_true rfl) rfl ?_
        refine k_iinc (pc' := 62) (v := nI (j + 1)) dX10_lays_59 rfl (nI_inc _) (Nat.le_of_ble_eq_true rfl) rfl ?_
        refine k_goto (tgt := 20) dX10_lays_62 rfl ?_
        exact ih2
      · rw [if_neg hs] at ih2
        refine k_iload (pc' := 22) dX10_lays_20 rfl ?_
        refine k_aload_n (pc' := 23) dX10_lays_22 rfl ?_
        refine p_get (pc' := 26) clX10 (Nat.le_of_ble_eq_true rfl) fl_RX10_9 dX10_lays_23 (by first | assumption | decide | omega) (by first | rfl | assumption) rfl ?_
        refine k_icmp_ge (tgt := 65) (pc' := 29) dX10_lays_26 rfl (fun zz_ => absurd zz_ (nI_ge (by omega) (by omega))) (fun _ => ?_)
        refine k_aload_n (pc' := 30) dX10_lays_29 rfl ?_
        refine p_get (pc' := 33) clX10 (Nat.le_of_ble_eq_true rfl) fl_RX10_58 dX10_lays_30 (by first | assumption | decide | omega) (by first | rfl | assumption) rfl ?_
        refine k_bipush (pc' := 35) (v := nI 15) dX10_lays_33 rfl ?_
        refine k_iload_n (pc' := 36) dX10_lays_35 rfl ?_
        refine k_imul (pc' := 37) dX10_lays_36 (by first | exact pk_mul _ _ | rfl) ?_
        refine k_iload_n (pc' := 38) dX10_lays_37 rfl ?_
        refine k_iadd (pc' := 39) dX10_lays_38 (by first | exact nI_add _ _ | rfl) ?_
        refine k_iload_n (pc' := 40) dX10_lays_39 rfl ?_
        refine k_iload (pc' := 42) dX10_lays_40 rfl ?_
        refine k_iload (pc' := 44) dX10_lays_42 rfl ?_
        refine p_sI (ν := mX10_separates) (pc' := 47) dX10_lays_44 ml_RX10_129 mo_X10_separates ms_X10_separates (Nat.le_of_ble_eq_true rfl) rfl rfl (Nat.le_of_ble_eq_true rfl) (by decide) (c_separates (by omega) (by omega)) ?_
        refine k_if_eq (tgt := 54) (pc' := 50) dX10_lays_47 rfl (fun _ => ?_) (fun zz_ => absurd (by rw [bI_eq]; exact hs) zz_)
        refine k_lconst (pc' := 55) (v := 0) dX10_lays_54 rfl ?_
        refine p_lastN (pc' := 56) dX10_lays_55 (by first | assumption | decide | omega) (by first | rfl | assumption) (by first | decide | omega) (by first | omega | (simp only [mL85, mL86, mL87, mL88, mL89, mL90, mL91, mL92, mL93, mL94, mL95, mL96, mL97, mL98, mL100, mL101, mL102, mL103]; omega)) (by exact pMt) ?_
        refine k_iinc (pc' := 59) (v := nI (pI N i (j + 1))) dX10_lays_56 rfl (by rw [← hup]; exact nI_inc _) (Nat.le_of_ble_eq_true rfl) rfl ?_
        refine k_iinc (pc' := 62) (v := nI (j + 1)) dX10_lays_59 rfl (nI_inc _) (Nat.le_of_ble_eq_true rfl) rfl ?_
        refine k_goto (tgt := 20) dX10_lays_62 rfl ?_
        exact ih2
    · rw [pI_next0 N (by omega) i hi]
      refine k_iload (pc' := 22) dX10_lays_20 rfl ?_
      refine k_aload_n (pc' := 23) dX10_lays_22 rfl ?_
      refine p_get (pc' := 26) clX10 (Nat.le_of_ble_eq_true rfl) fl_RX10_9 dX10_lays_23 (by first | assumption | decide | omega) (by first | rfl | assumption) rfl ?_
      refine k_icmp_ge (tgt := 65) (pc' := 29) dX10_lays_26 rfl (fun _ => ?_) (fun zz_ => absurd (nI_le (by omega) (by omega)) zz_)
      refine k_iinc (pc' := 68) (v := nI (i + 1)) dX10_lays_65 rfl (nI_inc _) (Nat.le_of_ble_eq_true rfl) rfl ?_
      refine k_goto (tgt := 5) dX10_lays_68 rfl ?_
      exact ih _
  · intro y
    refine k_iload (pc' := 7) dX10_lays_5 rfl ?_
    refine k_aload_n (pc' := 8) dX10_lays_7 rfl ?_
    refine p_get (pc' := 11) clX10 (Nat.le_of_ble_eq_true rfl) fl_RX10_9 dX10_lays_8 (by first | assumption | decide | omega) (by first | rfl | assumption) rfl ?_
    refine k_icmp_ge (tgt := 71) (pc' := 14) dX10_lays_11 rfl (fun _ => ?_) (fun zz_ => absurd (nI_le (by omega) (by omega)) zz_)
    refine p_return dX10_lays_71 rfl ?_
    exact ⟨rfl, rfl⟩
theorem c_exchanges {p q : Nat} (hp : p < 31) (hq : q < 31) : ConP G mX10_exchanges 1 [.ref (adr G 84), .int (nI p), .int (nI q)] (putM G σ N D T z a tb) (rV (putM G σ N D T z a (exc p q tb))) := by
  refine ConP.of rfl (Nat.le_of_ble_eq_true rfl) ?_
  refine k_iconst (pc' := 1) (v := nI 0) dX10_exchanges_0 rfl ?_
  refine k_istore_n (pc' := 2) dX10_exchanges_1 (Nat.le_of_ble_eq_true rfl) rfl ?_
  refine loopU (fun c t => ∀ y1 y2, OkP G mX10_exchanges 1 (rV (putM G σ N D T z a (exc p q tb))) 2 [some (.ref (adr G 84)), some (.int (nI p)), some (.int (nI q)), some (.int (nI c)), y1, y2] [] (putM G σ N D T z a t)) (exc1 p q) 15 0 15 tb (by omega) ?_ ?_ none none
  · intro c t _ hc ih y1 y2
    refine k_iload_n (pc' := 3) dX10_exchanges_2 rfl ?_
    refine k_bipush (pc' := 5) (v := nI 15) dX10_exchanges_3 rfl ?_
    refine k_icmp_ge (tgt := 62) (pc' := 8) dX10_exchanges_5 rfl (fun zz_ => absurd zz_ (nI_ge (by omega) (by omega))) (fun _ => ?_)
    refine k_aload_n (pc' := 9) dX10_exchanges_8 rfl ?_
    refine p_get (pc' := 12) clX10 (Nat.le_of_ble_eq_true rfl) fl_RX10_58 dX10_exchanges_9 (by first | assumption | decide | omega) (by first | rfl | assumption) rfl ?_
    refine k_bipush (pc' := 14) (v := nI 15) dX10_exchanges_12 rfl ?_
    refine k_iload_n (pc' := 15) dX10_exchanges_14 rfl ?_
    refine k_imul (pc' := 16) dX10_exchanges_15 (by first | exact pk_mul _ _ | rfl) ?_
    refine k_iload_n (pc' := 17) dX10_exchanges_16 rfl ?_
    refine k_iadd (pc' := 18) dX10_exchanges_17 (by first | exact nI_add _ _ | rfl) ?_
    refine p_laldN (pc' := 19) dX10_exchanges_18 (by first | assumption | decide | omega) (by first | rfl | assumption) (by first | decide | omega) (by first | omega | (simp only [mL85, mL86, mL87, mL88, mL89, mL90, mL91, mL92, mL93, mL94, mL95, mL96, mL97, mL98, mL100, mL101, mL102, mL103]; omega)) ?_
    refine k_lstore (pc' := 21) dX10_exchanges_19 (Nat.le_of_ble_eq_true rfl) rfl ?_
    refine k_aload_n (pc' := 22) dX10_exchanges_21 rfl ?_
    refine p_get (pc' := 25) clX10 (Nat.le_of_ble_eq_true rfl) fl_RX10_58 dX10_exchanges_22 (by first | assumption | decide | omega) (by first | rfl | assumption) rfl ?_
    refine k_bipush (pc' := 27) (v := nI 15) dX10_exchanges_25 rfl ?_
    refine k_iload_n (pc' := 28) dX10_exchanges_27 rfl ?_
    refine k_imul (pc' := 29) dX10_exchanges_28 (by first | exact pk_mul _ _ | rfl) ?_
    refine k_iload_n (pc' := 30) dX10_exchanges_29 rfl ?_
    refine k_iadd (pc' := 31) dX10_exchanges_30 (by first | exact nI_add _ _ | rfl) ?_
    refine k_aload_n (pc' := 32) dX10_exchanges_31 rfl ?_
    refine p_get (pc' := 35) clX10 (Nat.le_of_ble_eq_true rfl) fl_RX10_58 dX10_exchanges_32 (by first | assumption | decide | omega) (by first | rfl | assumption) rfl ?_
    refine k_bipush (pc' := 37) (v := nI 15) dX10_exchanges_35 rfl ?_
    refine k_iload_n (pc' := 38) dX10_exchanges_37 rfl ?_
    refine k_imul (pc' := 39) dX10_exchanges_38 (by first | exact pk_mul _ _ | rfl) ?_
    refine k_iload_n (pc' := 40) dX10_exchanges_39 rfl ?_
    refine k_iadd (pc' := 41) dX10_exchanges_40 (by first | exact nI_add _ _ | rfl) ?_
    refine p_laldN (pc' := 42) dX10_exchanges_41 (by first | assumption | decide | omega) (by first | rfl | assumption) (by first | decide | omega) (by first | omega | (simp only [mL85, mL86, mL87, mL88, mL89, mL90, mL91, mL92, mL93, mL94, mL95, mL96, mL97, mL98, mL100, mL101, mL102, mL103]; omega)) ?_
    refine p_lastN (pc' := 43) dX10_exchanges_42 (by first | assumption | decide | omega) (by first | rfl | assumption) (by first | decide | omega) (by first | omega | (simp only [mL85, mL86, mL87, mL88, mL89, mL90, mL91, mL92, mL93, mL94, mL95, mL96, mL97, mL98, mL100, mL101, mL102, mL103]; omega)) (by exact pMt) ?_
    refine k_aload_n (pc' := 44) dX10_exchanges_43 rfl ?_
    refine p_get (pc' := 47) clX10 (Nat.le_of_ble_eq_true rfl) fl_RX10_58 dX10_exchanges_44 (by first | assumption | decide | omega) (by first | rfl | assumption) rfl ?_
    refine k_bipush (pc' := 49) (v := nI 15) dX10_exchanges_47 rfl ?_
    refine k_iload_n (pc' := 50) dX10_exchanges_49 rfl ?_
    refine k_imul (pc' := 51) dX10_exchanges_50 (by first | exact pk_mul _ _ | rfl) ?_
    refine k_iload_n (pc' := 52) dX10_exchanges_51 rfl ?_
    refine k_iadd (pc' := 53) dX10_exchanges_52 (by first | exact nI_add _ _ | rfl) ?_
    refine k_lload (pc' := 55) dX10_exchanges_53 rfl ?_
    refine p_lastN (pc' := 56) dX10_exchanges_55 (by first | assumption | decide | omega) (by first | rfl | assumption) (by first | decide | omega) (by first | omega | (simp only [mL85, mL86, mL87, mL88, mL89, mL90, mL91, mL92, mL93, mL94, mL95, mL96, mL97, mL98, mL100, mL101, mL102, mL103]; omega)) (by exact pMt) ?_
    refine k_iinc (pc' := 59) (v := nI (c + 1)) dX10_exchanges_56 rfl (nI_inc _) (Nat.le_of_ble_eq_true rfl) rfl ?_
    refine k_goto (tgt := 2) dX10_exchanges_59 rfl ?_
    exact ih _ _
  · intro y1 y2
    refine k_iload_n (pc' := 3) dX10_exchanges_2 rfl ?_
    refine k_bipush (pc' := 5) (v := nI 15) dX10_exchanges_3 rfl ?_
    refine k_icmp_ge (tgt := 62) (pc' := 8) dX10_exchanges_5 rfl (fun _ => ?_) (fun zz_ => absurd (nI_le (by omega) (by omega)) zz_)
    refine p_return dX10_exchanges_62 rfl ?_
    exact ⟨rfl, rfl⟩
theorem c_rank (hN : 2 ≤ N) (hN6 : N ≤ 6) {rows : Nat} (hr : rows ≤ 31) : ConP G mX10_rank 2 [.ref (adr G 84), .int (nI rows)] (putM G σ N D T z a tb) (rI (nI (rkA N rows tb).2.1) (putM G σ N D T z a (rkA N rows tb).1)) := by
  have hP := pN_le hN6
  generalize hR : rkA N rows tb = R
  refine ConP.of rfl (Nat.le_of_ble_eq_true rfl) ?_
  refine k_iconst (pc' := 1) (v := nI 0) dX10_rank_0 rfl ?_
  refine k_istore_n (pc' := 2) dX10_rank_1 (Nat.le_of_ble_eq_true rfl) rfl ?_
  refine k_lconst (pc' := 3) (v := 1) dX10_rank_2 rfl ?_
  refine k_lstore_n (pc' := 4) dX10_rank_3 (Nat.le_of_ble_eq_true rfl) rfl ?_
  refine k_iconst (pc' := 5) (v := nI 0) dX10_rank_4 rfl ?_
  refine k_istore (pc' := 7) dX10_rank_5 (Nat.le_of_ble_eq_true rfl) rfl ?_
  refine loopU (fun c (s : RK) => s.2.1 ≤ rows → s.2.2 ≠ 0 → ∀ y6 y7 y9 y10 y12, OkP G mX10_rank 2 (rI (nI R.2.1) (putM G σ N D T z a R.1)) 7 [some (.ref (adr G 84)), some (.int (nI rows)), some (.int (nI s.2.1)), some (.long s.2.2), none, some (.int (nI c)), y6, y7, none, y9, y10, none, y12] [] (putM G σ N D T z a s.1)) (rk1 rows) (pN N) 0 (pN N) (tb, 0, 1) (by omega) ?_ ?_ (Nat.zero_le _) (show (1 : Int64) ≠ 0 by decide) none none none none none
  · intro c s _ hc ih hdn hla y6 y7 y9 y10 y12
    obtain ⟨t, dn, last⟩ := s
    dsimp only at hdn hla ih ⊢
    refine k_iload (pc' := 9) dX10_rank_7 rfl ?_
    refine k_aload_n (pc' := 10) dX10_rank_9 rfl ?_
    refine p_get (pc' := 13) clX10 (Nat.le_of_ble_eq_true rfl) fl_RX10_9 dX10_rank_10 (by first | assumption | decide | omega) (by first | rfl | assumption) rfl ?_
    refine p_sI (ν := mX10_pairsOf) (pc' := 16) dX10_rank_13 ml_RX10_187 mo_X10_pairsOf ms_X10_pairsOf (Nat.le_of_ble_eq_true rfl) rfl rfl (Nat.le_of_ble_eq_true rfl) (by decide) (c_pairsOf (by omega)) ?_
    refine k_icmp_ge (tgt := 189) (pc' := 19) dX10_rank_16 rfl (fun zz_ => absurd zz_ (nI_ge (by omega) (by omega))) (fun _ => ?_)
    refine k_iload_n (pc' := 20) dX10_rank_19 rfl ?_
    refine k_istore (pc' := 22) dX10_rank_20 (Nat.le_of_ble_eq_true rfl) rfl ?_
    have piv : ∀ n p F, p + n = rows → dn ≤ p → fnd t c n p = F → OkP G mX10_rank 2 (rI (nI R.2.1) (putM G σ N D T z a R.1)) 52 [some (.ref (adr G 84)), some (.int (nI rows)), some (.int (nI dn)), some (.long last), none, some (.int (nI c)), some (.int (nI F)), y7, none, y9, y10, none, y12] [] (putM G σ N D T z a t) → OkP G mX10_rank 2 (rI (nI R.2.1) (putM G σ N D T z a R.1)) 22 [some (.ref (adr G 84)), some (.int (nI rows)), some (.int (nI dn)), some (.long last), none, some (.int (nI c)), some (.int (nI p)), y7, none, y9, y10, none, y12] [] (putM G σ N D T z a t) := by
      intro n
      induction n with
      | zero =>
        intro p F hp _ hf hk
        have hf : p = F := hf
        rw [← hf] at hk
        refine k_iload (pc' := 24) dX10_rank_22 rfl ?_
        refine k_iload_n (pc' := 25) dX10_rank_24 rfl ?_
        refine k_icmp_ge (tgt := 52) (pc' := 28) dX10_rank_25 rfl (fun _ => ?_) (fun zz_ => absurd (nI_le (by omega) (by omega)) zz_)
        exact hk
      | succ n ihn =>
        intro p F hp hdp hf hk
        unfold fnd at hf
        by_cases hz : t (15 * p + c) = 0
        · rw [if_pos hz] at hf
          refine k_iload (pc' := 24) dX10_rank_22 rfl ?_
          refine k_iload_n (pc' := 25) dX10_rank_24 rfl ?_
          refine k_icmp_ge (tgt := 52) (pc' := 28) dX10_rank_25 rfl (fun zz_ => absurd zz_ (nI_ge (by omega) (by omega))) (fun _ => ?_)
          refine k_aload_n (pc' := 29) dX10_rank_28 rfl ?_
          refine p_get (pc' := 32) clX10 (Nat.le_of_ble_eq_true rfl) fl_RX10_58 dX10_rank_29 (by first | assumption | decide | omega) (by first | rfl | assumption) rfl ?_
          refine k_bipush (pc' := 34) (v := nI 15) dX10_rank_32 rfl ?_
          refine k_iload (pc' := 36) dX10_rank_34 rfl ?_
          refine k_imul (pc' := 37) dX10_rank_36 (by first | exact pk_mul _ _ | rfl) ?_
          refine k_iload (pc' := 39) dX10_rank_37 rfl ?_
          refine k_iadd (pc' := 40) dX10_rank_39 (by first | exact nI_add _ _ | rfl) ?_
          refine p_laldN (pc' := 41) dX10_rank_40 (by first | assumption | decide | omega) (by first | rfl | assumption) (by first | decide | omega) (by first | omega | (simp only [mL85, mL86, mL87, mL88, mL89, mL90, mL91, mL92, mL93, mL94, mL95, mL96, mL97, mL98, mL100, mL101, mL102, mL103]; omega)) ?_
          refine k_lconst (pc' := 42) (v := 0) dX10_rank_41 rfl ?_
          refine k_lcmp (pc' := 43) dX10_rank_42 ?_
          refine k_if_ne (tgt := 52) (pc' := 46) dX10_rank_43 rfl (fun zz_ => absurd (lc0.mpr hz) zz_) (fun _ => ?_)
          refine k_iinc (pc' := 49) (v := nI (p + 1)) dX10_rank_46 rfl (nI_inc _) (Nat.le_of_ble_eq_true rfl) rfl ?_
          refine k_goto (tgt := 22) dX10_rank_49 rfl ?_
          exact ihn (p + 1) F (by omega) (by omega) hf hk
        · rw [if_neg hz] at hf
          rw [← hf] at hk
          refine k_iload (pc' := 24) dX10_rank_22 rfl ?_
          refine k_iload_n (pc' := 25) dX10_rank_24 rfl ?_
          refine k_icmp_ge (tgt := 52) (pc' := 28) dX10_rank_25 rfl (fun zz_ => absurd zz_ (nI_ge (by omega) (by omega))) (fun _ => ?_)
          refine k_aload_n (pc' := 29) dX10_rank_28 rfl ?_
          refine p_get (pc' := 32) clX10 (Nat.le_of_ble_eq_true rfl) fl_RX10_58 dX10_rank_29 (by first | assumption | decide | omega) (by first | rfl | assumption) rfl ?_
          refine k_bipush (pc' := 34) (v := nI 15) dX10_rank_32 rfl ?_
          refine k_iload (pc' := 36) dX10_rank_34 rfl ?_
          refine k_imul (pc' := 37) dX10_rank_36 (by first | exact pk_mul _ _ | rfl) ?_
          refine k_iload (pc' := 39) dX10_rank_37 rfl ?_
          refine k_iadd (pc' := 40) dX10_rank_39 (by first | exact nI_add _ _ | rfl) ?_
          refine p_laldN (pc' := 41) dX10_rank_40 (by first | assumption | decide | omega) (by first | rfl | assumption) (by first | decide | omega) (by first | omega | (simp only [mL85, mL86, mL87, mL88, mL89, mL90, mL91, mL92, mL93, mL94, mL95, mL96, mL97, mL98, mL100, mL101, mL102, mL103]; omega)) ?_
          refine k_lconst (pc' := 42) (v := 0) dX10_rank_41 rfl ?_
          refine k_lcmp (pc' := 43) dX10_rank_42 ?_
          refine k_if_ne (tgt := 52) (pc' := 46) dX10_rank_43 rfl (fun _ => ?_) (fun zz_ => absurd zz_ (fun q => hz (lc0.mp q)))
          exact hk
    refine piv (rows - dn) dn _ (by omega) (Nat.le_refl _) rfl ?_
    have hge := fnd_ge (t := t) (c := c) (rows - dn) dn
    have hne := fnd_ne (t := t) (c := c) (rows - dn) dn
    generalize hp : fnd t c (rows - dn) dn = p at hge hne ⊢
    unfold rk1 at ih
    dsimp only at ih
    rw [hp] at ih
    by_cases hpr : p = rows
    · rw [if_pos hpr] at ih
      refine k_iload (pc' := 54) dX10_rank_52 rfl ?_
      refine k_iload_n (pc' := 55) dX10_rank_54 rfl ?_
      refine k_icmp_ne (tgt := 61) (pc' := 58) dX10_rank_55 rfl (fun zz_ => absurd (by rw [hpr]) zz_) (fun _ => ?_)
      refine k_goto (tgt := 183) dX10_rank_58 rfl ?_
      refine k_iinc (pc' := 186) (v := nI (c + 1)) dX10_rank_183 rfl (nI_inc _) (Nat.le_of_ble_eq_true rfl) rfl ?_
      refine k_goto (tgt := 7) dX10_rank_186 rfl ?_
      exact ih hdn hla _ _ _ _ _
    rw [if_neg hpr] at ih
    have hby : exc p dn t (15 * dn + c) ≠ 0 := by
      unfold exc
      rw [exc_in (by omega) 15 0 t (by omega) (by omega) (by omega)]
      exact hne (by omega)
    refine k_iload (pc' := 54) dX10_rank_52 rfl ?_
    refine k_iload_n (pc' := 55) dX10_rank_54 rfl ?_
    refine k_icmp_ne (tgt := 61) (pc' := 58) dX10_rank_55 rfl (fun _ => ?_) (fun zz_ => absurd zz_ (by rw [nI_eq (by omega) (by omega)]; exact hpr))
    refine k_aload_n (pc' := 62) dX10_rank_61 rfl ?_
    refine k_iload (pc' := 64) dX10_rank_62 rfl ?_
    refine k_iload_n (pc' := 65) dX10_rank_64 rfl ?_
    refine p_vV (ν := mX10_exchanges) (pc' := 68) dX10_rank_65 ml_RX10_190 mo_X10_exchanges mv_X10_exchanges clX10 (Nat.le_of_ble_eq_true rfl) rfl rfl (Nat.le_of_ble_eq_true rfl) (by first | assumption | decide | omega) (by first | rfl | assumption) (by decide) (c_exchanges (by omega) (by omega)) ?_
    refine k_aload_n (pc' := 69) dX10_rank_68 rfl ?_
    refine p_get (pc' := 72) clX10 (Nat.le_of_ble_eq_true rfl) fl_RX10_58 dX10_rank_69 (by first | assumption | decide | omega) (by first | rfl | assumption) rfl ?_
    refine k_bipush (pc' := 74) (v := nI 15) dX10_rank_72 rfl ?_
    refine k_iload_n (pc' := 75) dX10_rank_74 rfl ?_
    refine k_imul (pc' := 76) dX10_rank_75 (by first | exact pk_mul _ _ | rfl) ?_
    refine k_iload (pc' := 78) dX10_rank_76 rfl ?_
    refine k_iadd (pc' := 79) dX10_rank_78 (by first | exact nI_add _ _ | rfl) ?_
    refine p_laldN (pc' := 80) dX10_rank_79 (by first | assumption | decide | omega) (by first | rfl | assumption) (by first | decide | omega) (by first | omega | (simp only [mL85, mL86, mL87, mL88, mL89, mL90, mL91, mL92, mL93, mL94, mL95, mL96, mL97, mL98, mL100, mL101, mL102, mL103]; omega)) ?_
    refine k_lstore (pc' := 82) dX10_rank_80 (Nat.le_of_ble_eq_true rfl) rfl ?_
    refine k_iload_n (pc' := 83) dX10_rank_82 rfl ?_
    refine k_iconst (pc' := 84) (v := nI 1) dX10_rank_83 rfl ?_
    refine k_iadd (pc' := 85) dX10_rank_84 (by first | exact nI_add _ _ | rfl) ?_
    refine k_istore (pc' := 87) dX10_rank_85 (Nat.le_of_ble_eq_true rfl) rfl ?_
    generalize hb : exc p dn t (15 * dn + c) = b at hby ih ⊢
    refine loopU (fun r t => ∀ y10 y12, OkP G mX10_rank 2 (rI (nI R.2.1) (putM G σ N D T z a R.1)) 87 [some (.ref (adr G 84)), some (.int (nI rows)), some (.int (nI dn)), some (.long last), none, some (.int (nI c)), some (.int (nI p)), some (.long b), none, some (.int (nI r)), y10, none, y12] [] (putM G σ N D T z a t)) (el2 dn c b last) rows (dn + 1) (rows - (dn + 1)) (exc p dn t) (by omega) ?_ ?_ y10 y12
    · intro r t hr1 hr2 ih2 y10 y12
      refine k_iload (pc' := 89) dX10_rank_87 rfl ?_
      refine k_iload_n (pc' := 90) dX10_rank_89 rfl ?_
      refine k_icmp_ge (tgt := 177) (pc' := 93) dX10_rank_90 rfl (fun zz_ => absurd zz_ (nI_ge (by omega) (by omega))) (fun _ => ?_)
      refine k_aload_n (pc' := 94) dX10_rank_93 rfl ?_
      refine p_get (pc' := 97) clX10 (Nat.le_of_ble_eq_true rfl) fl_RX10_58 dX10_rank_94 (by first | assumption | decide | omega) (by first | rfl | assumption) rfl ?_
      refine k_bipush (pc' := 99) (v := nI 15) dX10_rank_97 rfl ?_
      refine k_iload (pc' := 101) dX10_rank_99 rfl ?_
      refine k_imul (pc' := 102) dX10_rank_101 (by first | exact pk_mul _ _ | rfl) ?_
      refine k_iload (pc' := 104) dX10_rank_102 rfl ?_
      refine k_iadd (pc' := 105) dX10_rank_104 (by first | exact nI_add _ _ | rfl) ?_
      refine p_laldN (pc' := 106) dX10_rank_105 (by first | assumption | decide | omega) (by first | rfl | assumption) (by first | decide | omega) (by first | omega | (simp only [mL85, mL86, mL87, mL88, mL89, mL90, mL91, mL92, mL93, mL94, mL95, mL96, mL97, mL98, mL100, mL101, mL102, mL103]; omega)) ?_
      refine k_lstore (pc' := 108) dX10_rank_106 (Nat.le_of_ble_eq_true rfl) rfl ?_
      refine k_iconst (pc' := 109) (v := nI 0) dX10_rank_108 rfl ?_
      refine k_istore (pc' := 111) dX10_rank_109 (Nat.le_of_ble_eq_true rfl) rfl ?_
      refine loopU (fun k t' => OkP G mX10_rank 2 (rI (nI R.2.1) (putM G σ N D T z a R.1)) 111 [some (.ref (adr G 84)), some (.int (nI rows)), some (.int (nI dn)), some (.long last), none, some (.int (nI c)), some (.int (nI p)), some (.long b), none, some (.int (nI r)), some (.long (t (15 * r + c))), none, some (.int (nI k))] [] (putM G σ N D T z a t')) (el1 dn r b (t (15 * r + c)) last) 15 0 15 t (by omega) ?_ ?_
      · intro k t' _ hk ih3
        refine k_iload (pc' := 113) dX10_rank_111 rfl ?_
        refine k_bipush (pc' := 115) (v := nI 15) dX10_rank_113 rfl ?_
        refine k_icmp_ge (tgt := 171) (pc' := 118) dX10_rank_115 rfl (fun zz_ => absurd zz_ (nI_ge (by omega) (by omega))) (fun _ => ?_)
        refine k_aload_n (pc' := 119) dX10_rank_118 rfl ?_
        refine p_get (pc' := 122) clX10 (Nat.le_of_ble_eq_true rfl) fl_RX10_58 dX10_rank_119 (by first | assumption | decide | omega) (by first | rfl | assumption) rfl ?_
        refine k_bipush (pc' := 124) (v := nI 15) dX10_rank_122 rfl ?_
        refine k_iload (pc' := 126) dX10_rank_124 rfl ?_
        refine k_imul (pc' := 127) dX10_rank_126 (by first | exact pk_mul _ _ | rfl) ?_
        refine k_iload (pc' := 129) dX10_rank_127 rfl ?_
        refine k_iadd (pc' := 130) dX10_rank_129 (by first | exact nI_add _ _ | rfl) ?_
        refine k_lload (pc' := 132) dX10_rank_130 rfl ?_
        refine k_aload_n (pc' := 133) dX10_rank_132 rfl ?_
        refine p_get (pc' := 136) clX10 (Nat.le_of_ble_eq_true rfl) fl_RX10_58 dX10_rank_133 (by first | assumption | decide | omega) (by first | rfl | assumption) rfl ?_
        refine k_bipush (pc' := 138) (v := nI 15) dX10_rank_136 rfl ?_
        refine k_iload (pc' := 140) dX10_rank_138 rfl ?_
        refine k_imul (pc' := 141) dX10_rank_140 (by first | exact pk_mul _ _ | rfl) ?_
        refine k_iload (pc' := 143) dX10_rank_141 rfl ?_
        refine k_iadd (pc' := 144) dX10_rank_143 (by first | exact nI_add _ _ | rfl) ?_
        refine p_laldN (pc' := 145) dX10_rank_144 (by first | assumption | decide | omega) (by first | rfl | assumption) (by first | decide | omega) (by first | omega | (simp only [mL85, mL86, mL87, mL88, mL89, mL90, mL91, mL92, mL93, mL94, mL95, mL96, mL97, mL98, mL100, mL101, mL102, mL103]; omega)) ?_
        refine k_lmul (pc' := 146) dX10_rank_145 rfl ?_
        refine k_lload (pc' := 148) dX10_rank_146 rfl ?_
        refine k_aload_n (pc' := 149) dX10_rank_148 rfl ?_
        refine p_get (pc' := 152) clX10 (Nat.le_of_ble_eq_true rfl) fl_RX10_58 dX10_rank_149 (by first | assumption | decide | omega) (by first | rfl | assumption) rfl ?_
        refine k_bipush (pc' := 154) (v := nI 15) dX10_rank_152 rfl ?_
        refine k_iload_n (pc' := 155) dX10_rank_154 rfl ?_
        refine k_imul (pc' := 156) dX10_rank_155 (by first | exact pk_mul _ _ | rfl) ?_
        refine k_iload (pc' := 158) dX10_rank_156 rfl ?_
        refine k_iadd (pc' := 159) dX10_rank_158 (by first | exact nI_add _ _ | rfl) ?_
        refine p_laldN (pc' := 160) dX10_rank_159 (by first | assumption | decide | omega) (by first | rfl | assumption) (by first | decide | omega) (by first | omega | (simp only [mL85, mL86, mL87, mL88, mL89, mL90, mL91, mL92, mL93, mL94, mL95, mL96, mL97, mL98, mL100, mL101, mL102, mL103]; omega)) ?_
        refine k_lmul (pc' := 161) dX10_rank_160 rfl ?_
        refine k_lsub (pc' := 162) dX10_rank_161 rfl ?_
        refine k_lload_n (pc' := 163) dX10_rank_162 rfl ?_
        refine k_ldiv (pc' := 164) dX10_rank_163 hla rfl ?_
        refine p_lastN (pc' := 165) dX10_rank_164 (by first | assumption | decide | omega) (by first | rfl | assumption) (by first | decide | omega) (by first | omega | (simp only [mL85, mL86, mL87, mL88, mL89, mL90, mL91, mL92, mL93, mL94, mL95, mL96, mL97, mL98, mL100, mL101, mL102, mL103]; omega)) (by exact pMt) ?_
        refine k_iinc (pc' := 168) (v := nI (k + 1)) dX10_rank_165 rfl (nI_inc _) (Nat.le_of_ble_eq_true rfl) rfl ?_
        refine k_goto (tgt := 111) dX10_rank_168 rfl ?_
        exact ih3
      · refine k_iload (pc' := 113) dX10_rank_111 rfl ?_
        refine k_bipush (pc' := 115) (v := nI 15) dX10_rank_113 rfl ?_
        refine k_icmp_ge (tgt := 171) (pc' := 118) dX10_rank_115 rfl (fun _ => ?_) (fun zz_ => absurd (nI_le (by omega) (by omega)) zz_)
        refine k_iinc (pc' := 174) (v := nI (r + 1)) dX10_rank_171 rfl (nI_inc _) (Nat.le_of_ble_eq_true rfl) rfl ?_
        refine k_goto (tgt := 87) dX10_rank_174 rfl ?_
        exact ih2 _ _
    · intro y10 y12
      refine k_iload (pc' := 89) dX10_rank_87 rfl ?_
      refine k_iload_n (pc' := 90) dX10_rank_89 rfl ?_
      refine k_icmp_ge (tgt := 177) (pc' := 93) dX10_rank_90 rfl (fun _ => ?_) (fun zz_ => absurd (nI_le (by omega) (by omega)) zz_)
      refine k_lload (pc' := 179) dX10_rank_177 rfl ?_
      refine k_lstore_n (pc' := 180) dX10_rank_179 (Nat.le_of_ble_eq_true rfl) rfl ?_
      refine k_iinc (pc' := 183) (v := nI (dn + 1)) dX10_rank_180 rfl (nI_inc _) (Nat.le_of_ble_eq_true rfl) rfl ?_
      refine k_iinc (pc' := 186) (v := nI (c + 1)) dX10_rank_183 rfl (nI_inc _) (Nat.le_of_ble_eq_true rfl) rfl ?_
      refine k_goto (tgt := 7) dX10_rank_186 rfl ?_
      exact ih (by show dn + 1 ≤ rows; omega) hby _ _ _ _ _
  · intro h1 h2 y6 y7 y9 y10 y12
    rw [show upn (pN N) 0 (rk1 rows) (tb, 0, 1) = R from hR]
    refine k_iload (pc' := 9) dX10_rank_7 rfl ?_
    refine k_aload_n (pc' := 10) dX10_rank_9 rfl ?_
    refine p_get (pc' := 13) clX10 (Nat.le_of_ble_eq_true rfl) fl_RX10_9 dX10_rank_10 (by first | assumption | decide | omega) (by first | rfl | assumption) rfl ?_
    refine p_sI (ν := mX10_pairsOf) (pc' := 16) dX10_rank_13 ml_RX10_187 mo_X10_pairsOf ms_X10_pairsOf (Nat.le_of_ble_eq_true rfl) rfl rfl (Nat.le_of_ble_eq_true rfl) (by decide) (c_pairsOf (by omega)) ?_
    refine k_icmp_ge (tgt := 189) (pc' := 19) dX10_rank_16 rfl (fun _ => ?_) (fun zz_ => absurd (nI_le (by omega) (by omega)) zz_)
    refine k_iload_n (pc' := 190) dX10_rank_189 rfl ?_
    refine p_ireturn dX10_rank_190 rfl ?_
    exact ⟨rfl, rfl⟩
theorem m_roots (hN : 2 ≤ N) (hN6 : N ≤ 6) {x y : Int32} : ConP G mX10_roots 4 [.ref (adr G 84), .int x, .int y] (putM G σ N D T z a tb) (fun v σ' => (¬ ((0 ≤ x.toInt ∧ x.toInt ≤ 5) ∧ (0 ≤ y.toInt ∧ y.toInt ≤ 2)) ∧ rI (-1) (putM G σ N D T z a tb) v σ') ∨ ∃ h, x = nI h ∧ h < 6 ∧ (0 ≤ y.toInt ∧ y.toInt ≤ 2) ∧ ((¬ mBar N h a = 0 ∧ rI (mBar N h a) (putM G σ N D T z a tb) v σ') ∨ (mBar N h a = 0 ∧ ∃ t', rI (if y = 0 then nI (mRs N (mLd N h (a 93) (a 98)) tb).1 else if y = 1 then nI (rkA N (mRs N (mLd N h (a 93) (a 98)) tb).1 (mRs N (mLd N h (a 93) (a 98)) tb).2).2.1 else bI ((rkA N (mRs N (mLd N h (a 93) (a 98)) tb).1 (mRs N (mLd N h (a 93) (a 98)) tb).2).2.1 = pN N - 1)) (putM G σ N D T z (va_up a 98 (mLd N h (a 93) (a 98))) t') v σ'))) := by
  have hl := lC_le hN hN6
  have hP := pN_le hN6
  have hP1 : 1 ≤ pN N := by
    have : ∀ N, N < 7 → 2 ≤ N → 1 ≤ pN N := by decide +kernel
    exact this N (by omega) hN
  refine ConP.of rfl (Nat.le_of_ble_eq_true rfl) ?_
  refine k_iload_n (pc' := 1) dX10_roots_0 rfl ?_
  refine p_sI (ν := mX10_isHolder) (pc' := 4) dX10_roots_1 ml_RX10_176 mo_X10_isHolder ms_X10_isHolder (Nat.le_of_ble_eq_true rfl) rfl rfl (Nat.le_of_ble_eq_true rfl) (by decide) (c_mIsHolder) ?_
  refine k_if_eq (tgt := 19) (pc' := 7) dX10_roots_4 rfl (fun c_4 => ?_) (fun c_4 => ?_)
  · rw [bI_eq] at c_4
    refine k_iconst (pc' := 20) (v := -1) dX10_roots_19 rfl ?_
    refine p_ireturn dX10_roots_20 rfl ?_
    exact Or.inl ⟨fun q => c_4 q.1, rfl, rfl⟩
  rw [bI_ne] at c_4
  refine k_iload_n (pc' := 8) dX10_roots_7 rfl ?_
  refine k_i2l (pc' := 9) dX10_roots_8 rfl ?_
  refine k_lconst (pc' := 10) (v := 0) dX10_roots_9 rfl ?_
  refine k_ldc2 (pc' := 13)  dX10_roots_10 cl_RX10_103 ?_
  refine p_sI (ν := mX10_in) (pc' := 16) dX10_roots_13 ml_RX10_77 mo_X10_in ms_X10_in (Nat.le_of_ble_eq_true rfl) rfl rfl (Nat.le_of_ble_eq_true rfl) (by decide) (c_in) ?_
  refine k_if_ne (tgt := 21) (pc' := 19) dX10_roots_16 rfl (fun c_16 => ?_) (fun c_16 => ?_)
  rotate_left
  · rw [bI_eq, in_w (p := 0) (q := 2) rfl rfl] at c_16
    refine k_iconst (pc' := 20) (v := -1) dX10_roots_19 rfl ?_
    refine p_ireturn dX10_roots_20 rfl ?_
    exact Or.inl ⟨fun q => c_16 q.2, rfl, rfl⟩
  rw [bI_ne, in_w (p := 0) (q := 2) rfl rfl] at c_16
  obtain ⟨h, hh, hx⟩ := nI_in0 (x := x) (n := 6) (by omega) (by omega) (by decide)
  subst hx
  by_cases hb : mBar N h a = 0
  rotate_left
  · refine k_aload_n (pc' := 22) dX10_roots_21 rfl ?_
    refine k_iload_n (pc' := 23) dX10_roots_22 rfl ?_
    refine p_vI (ν := mX10_bar) (pc' := 26) dX10_roots_23 ml_RX10_182 mo_X10_bar mv_X10_bar clX10 (Nat.le_of_ble_eq_true rfl) rfl rfl (Nat.le_of_ble_eq_true rfl) (by first | assumption | decide | omega) (by first | rfl | assumption) (by decide) (c_bar hN hN6 hh) ?_
    rw [if_neg hb]
    refine k_if_eq (tgt := 35) (pc' := 29) dX10_roots_26 rfl (fun zz_ => absurd zz_ hb) (fun _ => ?_)
    refine k_aload_n (pc' := 30) dX10_roots_29 rfl ?_
    refine k_iload_n (pc' := 31) dX10_roots_30 rfl ?_
    refine p_vI (ν := mX10_bar) (pc' := 34) dX10_roots_31 ml_RX10_182 mo_X10_bar mv_X10_bar clX10 (Nat.le_of_ble_eq_true rfl) rfl rfl (Nat.le_of_ble_eq_true rfl) (by first | assumption | decide | omega) (by first | rfl | assumption) (by decide) (c_bar hN hN6 hh) ?_
    rw [if_neg hb]
    refine p_ireturn dX10_roots_34 rfl ?_
    exact Or.inr ⟨h, rfl, hh, c_16, Or.inl ⟨hb, rfl, rfl⟩⟩
  refine k_aload_n (pc' := 22) dX10_roots_21 rfl ?_
  refine k_iload_n (pc' := 23) dX10_roots_22 rfl ?_
  refine p_vI (ν := mX10_bar) (pc' := 26) dX10_roots_23 ml_RX10_182 mo_X10_bar mv_X10_bar clX10 (Nat.le_of_ble_eq_true rfl) rfl rfl (Nat.le_of_ble_eq_true rfl) (by first | assumption | decide | omega) (by first | rfl | assumption) (by decide) (c_bar hN hN6 hh) ?_
  rw [if_pos hb]
  refine k_if_eq (tgt := 35) (pc' := 29) dX10_roots_26 rfl (fun _ => ?_) (fun zz_ => absurd hb zz_)
  refine k_iconst (pc' := 36) (v := nI 0) dX10_roots_35 rfl ?_
  refine k_istore_n (pc' := 37) dX10_roots_36 (Nat.le_of_ble_eq_true rfl) rfl ?_
  refine k_iconst (pc' := 38) (v := nI 1) dX10_roots_37 rfl ?_
  refine k_istore (pc' := 40) dX10_roots_38 (Nat.le_of_ble_eq_true rfl) rfl ?_
  generalize hQ : (fun v σ' => (¬ ((0 ≤ (nI h).toInt ∧ (nI h).toInt ≤ 5) ∧ (0 ≤ y.toInt ∧ y.toInt ≤ 2)) ∧ rI (-1) (putM G σ N D T z a tb) v σ') ∨ ∃ h', nI h = nI h' ∧ h' < 6 ∧ (0 ≤ y.toInt ∧ y.toInt ≤ 2) ∧ ((¬ mBar N h' a = 0 ∧ rI (mBar N h' a) (putM G σ N D T z a tb) v σ') ∨ (mBar N h' a = 0 ∧ ∃ t', rI (if y = 0 then nI (mRs N (mLd N h' (a 93) (a 98)) tb).1 else if y = 1 then nI (rkA N (mRs N (mLd N h' (a 93) (a 98)) tb).1 (mRs N (mLd N h' (a 93) (a 98)) tb).2).2.1 else bI ((rkA N (mRs N (mLd N h' (a 93) (a 98)) tb).1 (mRs N (mLd N h' (a 93) (a 98)) tb).2).2.1 = pN N - 1)) (putM G σ N D T z (va_up a 98 (mLd N h' (a 93) (a 98))) t') v σ'))) = Qf
  generalize hB : mLd N h (a 93) (a 98) = B
  have fin : ∀ r t', r = (if y = 0 then nI (mRs N B tb).1 else if y = 1 then nI (rkA N (mRs N B tb).1 (mRs N B tb).2).2.1 else bI ((rkA N (mRs N B tb).1 (mRs N B tb).2).2.1 = pN N - 1)) → Qf (some (.int r)) (putM G σ N D T z (va_up a 98 B) t') := by
    intro r t' hr
    rw [← hQ]
    refine Or.inr ⟨h, rfl, hh, c_16, Or.inr ⟨hb, t', ?_, by rw [hB]⟩⟩
    rw [hB, hr]
  have hcnt : ∀ n s (w : Nat × (Nat → Int64)), (upn n s (mRs1 N B) w).1 ≤ w.1 + n := by
    intro n
    induction n with
    | zero => intros; exact Nat.le_refl _
    | succ n ih =>
      intro s w
      have h1 := ih (s + 1) (mRs1 N B s w)
      have h2 : (mRs1 N B s w).1 ≤ w.1 + 1 := by
        unfold mRs1
        by_cases hz : mRt N (nI s) B = 0
        · rw [if_pos hz]; exact Nat.le_refl _
        · rw [if_neg hz]; omega
      show (upn n (s + 1) (mRs1 N B) (mRs1 N B s w)).1 ≤ _
      omega
  have hmany : (mRs N B tb).1 ≤ 31 := by
    have := hcnt (lC N) 1 (0, tb)
    unfold mRs
    dsimp only at this
    omega
  have main : ∀ n s (w : Nat × (Nat → Int64)), s + n = lC N + 1 → w.1 < s → upn n s (mRs1 N B) w = mRs N B tb → OkP G mX10_roots 4 Qf 40 [some (.ref (adr G 84)), some (.int (nI h)), some (.int y), some (.int (nI w.1)), some (.int (nI s))] [] (putM G σ N D T z (va_up a 98 B) w.2) := by
    intro n
    induction n with
    | zero =>
      intro s w hs hw he
      have he : w = mRs N B tb := he
      subst he
      by_cases h0 : y = 0
      · refine k_iload (pc' := 42) dX10_roots_40 rfl ?_
        refine k_aload_n (pc' := 43) dX10_roots_42 rfl ?_
        refine p_vI (ν := mX10_cuts) (pc' := 46) dX10_roots_43 ml_RX10_85 mo_X10_cuts mv_X10_cuts clX10 (Nat.le_of_ble_eq_true rfl) rfl rfl (Nat.le_of_ble_eq_true rfl) (by first | assumption | decide | omega) (by first | rfl | assumption) (by decide) (c_cuts hN hN6) ?_
        refine k_icmp_gt (tgt := 77) (pc' := 49) dX10_roots_46 rfl (fun _ => ?_) (fun zz_ => absurd (nI_lt (by omega) (by omega)) zz_)
        refine k_iload_n (pc' := 78) dX10_roots_77 rfl ?_
        refine k_if_ne (tgt := 83) (pc' := 81) dX10_roots_78 rfl (fun zz_ => absurd h0 zz_) (fun _ => ?_)
        refine k_iload_n (pc' := 82) dX10_roots_81 rfl ?_
        refine p_ireturn dX10_roots_82 rfl ?_
        exact fin _ _ (by rw [if_pos h0])
      refine k_iload (pc' := 42) dX10_roots_40 rfl ?_
      refine k_aload_n (pc' := 43) dX10_roots_42 rfl ?_
      refine p_vI (ν := mX10_cuts) (pc' := 46) dX10_roots_43 ml_RX10_85 mo_X10_cuts mv_X10_cuts clX10 (Nat.le_of_ble_eq_true rfl) rfl rfl (Nat.le_of_ble_eq_true rfl) (by first | assumption | decide | omega) (by first | rfl | assumption) (by decide) (c_cuts hN hN6) ?_
      refine k_icmp_gt (tgt := 77) (pc' := 49) dX10_roots_46 rfl (fun _ => ?_) (fun zz_ => absurd (nI_lt (by omega) (by omega)) zz_)
      refine k_iload_n (pc' := 78) dX10_roots_77 rfl ?_
      refine k_if_ne (tgt := 83) (pc' := 81) dX10_roots_78 rfl (fun _ => ?_) (fun zz_ => absurd zz_ h0)
      refine k_aload_n (pc' := 84) dX10_roots_83 rfl ?_
      refine k_iload_n (pc' := 85) dX10_roots_84 rfl ?_
      refine p_vI (ν := mX10_rank) (pc' := 88) dX10_roots_85 ml_RX10_200 mo_X10_rank mv_X10_rank clX10 (Nat.le_of_ble_eq_true rfl) rfl rfl (Nat.le_of_ble_eq_true rfl) (by first | assumption | decide | omega) (by first | rfl | assumption) (by decide) (c_rank hN hN6 hmany) ?_
      refine k_istore (pc' := 90) dX10_roots_88 (Nat.le_of_ble_eq_true rfl) rfl ?_
      by_cases h1 : y = 1
      · refine k_iload_n (pc' := 91) dX10_roots_90 rfl ?_
        refine k_iconst (pc' := 92) (v := nI 1) dX10_roots_91 rfl ?_
        refine k_icmp_ne (tgt := 100) (pc' := 95) dX10_roots_92 rfl (fun zz_ => absurd h1 zz_) (fun _ => ?_)
        refine k_iload (pc' := 97) dX10_roots_95 rfl ?_
        refine k_goto (tgt := 119) dX10_roots_97 rfl ?_
        refine p_ireturn dX10_roots_119 rfl ?_
        exact fin _ _ (by rw [if_neg h0, if_pos h1])
      have hrk : (rkA N (mRs N B tb).1 (mRs N B tb).2).2.1 ≤ 15 := by
        unfold rkA
        have := upn_inv (f := rk1 (mRs N B tb).1) (fun k (s : RK) => s.2.1 ≤ k) (pN N) 0 ((mRs N B tb).2, 0, 1) (fun j s h1 h2 h3 => by
          unfold rk1
          split
          · exact Nat.le_trans h3 (Nat.le_succ _)
          · exact Nat.succ_le_succ h3) (Nat.le_refl 0)
        omega
      by_cases hf : (rkA N (mRs N B tb).1 (mRs N B tb).2).2.1 = pN N - 1
      · refine k_iload_n (pc' := 91) dX10_roots_90 rfl ?_
        refine k_iconst (pc' := 92) (v := nI 1) dX10_roots_91 rfl ?_
        refine k_icmp_ne (tgt := 100) (pc' := 95) dX10_roots_92 rfl (fun _ => ?_) (fun zz_ => absurd zz_ h1)
        refine k_iload (pc' := 102) dX10_roots_100 rfl ?_
        refine k_aload_n (pc' := 103) dX10_roots_102 rfl ?_
        refine p_get (pc' := 106) clX10 (Nat.le_of_ble_eq_true rfl) fl_RX10_9 dX10_roots_103 (by first | assumption | decide | omega) (by first | rfl | assumption) rfl ?_
        refine p_sI (ν := mX10_pairsOf) (pc' := 109) dX10_roots_106 ml_RX10_187 mo_X10_pairsOf ms_X10_pairsOf (Nat.le_of_ble_eq_true rfl) rfl rfl (Nat.le_of_ble_eq_true rfl) (by decide) (c_pairsOf (by omega)) ?_
        refine k_iconst (pc' := 110) (v := nI 1) dX10_roots_109 rfl ?_
        refine k_isub (pc' := 111) dX10_roots_110 (by first | exact pk_sub (by omega) | rfl) ?_
        refine k_icmp_ne (tgt := 118) (pc' := 114) dX10_roots_111 rfl (fun zz_ => absurd (by rw [hf]) zz_) (fun _ => ?_)
        refine k_iconst (pc' := 115) (v := nI 1) dX10_roots_114 rfl ?_
        refine k_goto (tgt := 119) dX10_roots_115 rfl ?_
        refine p_ireturn dX10_roots_119 rfl ?_
        exact fin _ _ (by rw [if_neg h0, if_neg h1, bI_t hf]; rfl)
      · refine k_iload_n (pc' := 91) dX10_roots_90 rfl ?_
        refine k_iconst (pc' := 92) (v := nI 1) dX10_roots_91 rfl ?_
        refine k_icmp_ne (tgt := 100) (pc' := 95) dX10_roots_92 rfl (fun _ => ?_) (fun zz_ => absurd zz_ h1)
        refine k_iload (pc' := 102) dX10_roots_100 rfl ?_
        refine k_aload_n (pc' := 103) dX10_roots_102 rfl ?_
        refine p_get (pc' := 106) clX10 (Nat.le_of_ble_eq_true rfl) fl_RX10_9 dX10_roots_103 (by first | assumption | decide | omega) (by first | rfl | assumption) rfl ?_
        refine p_sI (ν := mX10_pairsOf) (pc' := 109) dX10_roots_106 ml_RX10_187 mo_X10_pairsOf ms_X10_pairsOf (Nat.le_of_ble_eq_true rfl) rfl rfl (Nat.le_of_ble_eq_true rfl) (by decide) (c_pairsOf (by omega)) ?_
        refine k_iconst (pc' := 110) (v := nI 1) dX10_roots_109 rfl ?_
        refine k_isub (pc' := 111) dX10_roots_110 (by first | exact pk_sub (by omega) | rfl) ?_
        refine k_icmp_ne (tgt := 118) (pc' := 114) dX10_roots_111 rfl (fun _ => ?_) (fun zz_ => absurd zz_ (by rw [nI_eq (by omega) (by omega)]; exact hf))
        refine k_iconst (pc' := 119) (v := nI 0) dX10_roots_118 rfl ?_
        refine p_ireturn dX10_roots_119 rfl ?_
        exact fin _ _ (by rw [if_neg h0, if_neg h1, bI_f hf]; rfl)
    | succ n ih =>
      intro s w hs hw he
      have he : upn n (s + 1) (mRs1 N B) (mRs1 N B s w) = mRs N B tb := he
      by_cases hz : mRt N (nI s) B = 0
      · have e : mRs1 N B s w = (w.1 + 1, mLy N w.1 (nI s) w.2) := if_pos hz
        rw [e] at he
        refine k_iload (pc' := 42) dX10_roots_40 rfl ?_
        refine k_aload_n (pc' := 43) dX10_roots_42 rfl ?_
        refine p_vI (ν := mX10_cuts) (pc' := 46) dX10_roots_43 ml_RX10_85 mo_X10_cuts mv_X10_cuts clX10 (Nat.le_of_ble_eq_true rfl) rfl rfl (Nat.le_of_ble_eq_true rfl) (by first | assumption | decide | omega) (by first | rfl | assumption) (by decide) (c_cuts hN hN6) ?_
        refine k_icmp_gt (tgt := 77) (pc' := 49) dX10_roots_46 rfl (fun zz_ => absurd zz_ (nI_nlt (by omega) (by omega))) (fun _ => ?_)
        refine k_aload_n (pc' := 50) dX10_roots_49 rfl ?_
        refine k_iload (pc' := 52) dX10_roots_50 rfl ?_
        refine p_vI (ν := mX10_isRoot) (pc' := 55) dX10_roots_52 ml_RX10_194 mo_X10_isRoot mv_X10_isRoot clX10 (Nat.le_of_ble_eq_true rfl) rfl rfl (Nat.le_of_ble_eq_true rfl) (by first | assumption | decide | omega) (by first | rfl | assumption) (by decide) (c_mIsRoot hN6) ?_
        refine k_if_ne (tgt := 61) (pc' := 58) dX10_roots_55 rfl (fun _ => ?_) (fun zz_ => absurd zz_ (by rw [bI_ne]; exact hz))
        refine k_aload_n (pc' := 62) dX10_roots_61 rfl ?_
        refine k_iload_n (pc' := 63) dX10_roots_62 rfl ?_
        refine k_iload (pc' := 65) dX10_roots_63 rfl ?_
        refine p_vV (ν := mX10_lays) (pc' := 68) dX10_roots_65 ml_RX10_197 mo_X10_lays mv_X10_lays clX10 (Nat.le_of_ble_eq_true rfl) rfl rfl (Nat.le_of_ble_eq_true rfl) (by first | assumption | decide | omega) (by first | rfl | assumption) (by decide) (c_lays hN hN6 (by omega)) ?_
        refine k_iinc (pc' := 71) (v := nI (w.1 + 1)) dX10_roots_68 rfl (nI_inc _) (Nat.le_of_ble_eq_true rfl) rfl ?_
        refine k_iinc (pc' := 74) (v := nI (s + 1)) dX10_roots_71 rfl (nI_inc _) (Nat.le_of_ble_eq_true rfl) rfl ?_
        refine k_goto (tgt := 40) dX10_roots_74 rfl ?_
        exact ih (s + 1) (w.1 + 1, mLy N w.1 (nI s) w.2) (by omega) (by show w.1 + 1 < s + 1; omega) he
      · have e : mRs1 N B s w = w := if_neg hz
        rw [e] at he
        refine k_iload (pc' := 42) dX10_roots_40 rfl ?_
        refine k_aload_n (pc' := 43) dX10_roots_42 rfl ?_
        refine p_vI (ν := mX10_cuts) (pc' := 46) dX10_roots_43 ml_RX10_85 mo_X10_cuts mv_X10_cuts clX10 (Nat.le_of_ble_eq_true rfl) rfl rfl (Nat.le_of_ble_eq_true rfl) (by first | assumption | decide | omega) (by first | rfl | assumption) (by decide) (c_cuts hN hN6) ?_
        refine k_icmp_gt (tgt := 77) (pc' := 49) dX10_roots_46 rfl (fun zz_ => absurd zz_ (nI_nlt (by omega) (by omega))) (fun _ => ?_)
        refine k_aload_n (pc' := 50) dX10_roots_49 rfl ?_
        refine k_iload (pc' := 52) dX10_roots_50 rfl ?_
        refine p_vI (ν := mX10_isRoot) (pc' := 55) dX10_roots_52 ml_RX10_194 mo_X10_isRoot mv_X10_isRoot clX10 (Nat.le_of_ble_eq_true rfl) rfl rfl (Nat.le_of_ble_eq_true rfl) (by first | assumption | decide | omega) (by first | rfl | assumption) (by decide) (c_mIsRoot hN6) ?_
        refine k_if_ne (tgt := 61) (pc' := 58) dX10_roots_55 rfl (fun zz_ => absurd (by rw [bI_eq]; exact hz) zz_) (fun _ => ?_)
        refine k_goto (tgt := 71) dX10_roots_58 rfl ?_
        refine k_iinc (pc' := 74) (v := nI (s + 1)) dX10_roots_71 rfl (nI_inc _) (Nat.le_of_ble_eq_true rfl) rfl ?_
        refine k_goto (tgt := 40) dX10_roots_74 rfl ?_
        exact ih (s + 1) w (by omega) (by omega) he
  exact main (lC N) 1 (0, tb) (by omega) (show 0 < 1 by decide) rfl
end MODEL9
