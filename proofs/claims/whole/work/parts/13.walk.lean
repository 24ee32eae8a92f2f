/-! WallWalk: the object at 48, its table at 49, b 51, rest 52, frontValue 53, pull 54 with rows 55 .. 60 -/
abbrev WS : Type := (Nat → Int32) × (Nat → Int32) × (Nat → Int32) × (Nat → Nat → Int32)
def putW (G : GT) (σ : Sto) (st : Int32) (N m : Nat) (w : WS) : Sto := fun q =>
  if q = 48 then ob 8 [.ref (adr G 49), .int st, .int (nI N), .int (nI m), .ref (adr G 51), .ref (adr G 52), .ref (adr G 53), .ref (adr G 54)]
  else if q = 51 then aI G 6 w.1 else if q = 52 then aI G 7 w.2.1 else if q = 53 then aI G 7 w.2.2.1
  else if 55 ≤ q ∧ q < 61 then aI G 6 (w.2.2.2 (q - 55)) else σ q
def lA (N m : Nat) (r : Int32) (p : Nat) : Int32 := if -(nI m) < r - nI m * nI (N - 1 - p) then r - nI m * nI (N - 1 - p) else -(nI m)
def gA (N m : Nat) (r : Int32) (p : Nat) : Int32 := if r + nI m * nI (N - 1 - p) < nI m then r + nI m * nI (N - 1 - p) else nI m
def car1 (N : Nat) (ft : Nat → Int32) (p : Nat) (w : WS) (j : Nat) (row : Nat → Int32) : Nat → Int32 := upd row j (w.2.2.2 p j + w.1 p * dT N ft p j)
/-- carry(p) -/
def car (N : Nat) (ft : Nat → Int32) (p : Nat) (w : WS) : WS := (w.1, upd w.2.1 (p + 1) (w.2.1 p - w.1 p), upd w.2.2.1 (p + 1) (w.2.2.1 p + w.1 p * w.2.2.2 p p), va_up w.2.2.2 (p + 1) (upn (N - (p + 1)) (p + 1) (car1 N ft p w) (w.2.2.2 (p + 1))))
def fil1 (N m : Nat) (ft : Nat → Int32) (p : Nat) (w : WS) : WS := car N ft p (upd w.1 p (lA N m (w.2.1 p) p), w.2)
def fil (N m : Nat) (ft : Nat → Int32) (p : Nat) (w : WS) : WS := upn (N - p) p (fil1 N m ft) w
/-- goOn() from the place p - 1 downwards: none, if there is no next one -/
def goD (N m : Nat) (ft : Nat → Int32) (w : WS) : Nat → Option WS
  | 0 => none
  | p + 1 => if w.1 p < gA N m (w.2.1 p) p then some (fil N m ft (p + 1) (car N ft p (upd w.1 p (w.1 p + nI 1), w.2))) else goD N m ft w p
def goO (N m : Nat) (ft : Nat → Int32) (w : WS) : Option WS := goD N m ft w (N - 1)
section WALK
variable {G : GT} {σ : Sto} {st : Int32} {N m : Nat} {w : WS} {ft : Nat → Int32}
theorem pW48 : putW G σ st N m w 48 = ob 8 [.ref (adr G 49), .int st, .int (nI N), .int (nI m), .ref (adr G 51), .ref (adr G 52), .ref (adr G 53), .ref (adr G 54)] := rfl
theorem pW51 : putW G σ st N m w 51 = aI G 6 w.1 := rfl
theorem pW52 : putW G σ st N m w 52 = aI G 7 w.2.1 := rfl
theorem pW53 : putW G σ st N m w 53 = aI G 7 w.2.2.1 := rfl
theorem pWr {k : Nat} (h : k < 6) : putW G σ st N m w (55 + k) = aI G 6 (w.2.2.2 k) := by
  unfold putW
  rw [if_neg (by omega), if_neg (by omega), if_neg (by omega), if_neg (by omega), if_pos (by omega), show 55 + k - 55 = k by omega]
theorem pWn {q : Nat} (h : q < 48 ∨ q = 49 ∨ q = 50 ∨ q = 54 ∨ 60 < q) : putW G σ st N m w q = σ q := by
  unfold putW
  rw [if_neg (by omega), if_neg (by omega), if_neg (by omega), if_neg (by omega), if_neg (by omega)]
theorem pW_T {t M : Nat} {f : Nat → Int32} (h : isT G σ t M f) (ht : t + 1 < 48 ∨ t = 49 ∨ 60 < t) : isT G (putW G σ st N m w) t M f := ⟨h.1, h.2.1, (pWn (by omega)).trans h.2.2.1, (pWn (by omega)).trans h.2.2.2.1, h.2.2.2.2⟩
theorem pW_b {b : Nat → Int32} : va_up (putW G σ st N m w) 51 (aI G 6 b) = putW G σ st N m (b, w.2) := by
  funext q
  by_cases h : q = 51
  · subst h; rfl
  · rw [up_n h]; unfold putW; simp only [h, if_false]
theorem pW_rs {b : Nat → Int32} : va_up (putW G σ st N m w) 52 (aI G 7 b) = putW G σ st N m (w.1, b, w.2.2) := by
  funext q
  by_cases h : q = 52
  · subst h; rfl
  · rw [up_n h]; unfold putW; simp only [h, if_false]
theorem pW_fv {b : Nat → Int32} : va_up (putW G σ st N m w) 53 (aI G 7 b) = putW G σ st N m (w.1, w.2.1, b, w.2.2.2) := by
  funext q
  by_cases h : q = 53
  · subst h; rfl
  · rw [up_n h]; unfold putW; simp only [h, if_false]
theorem pW_pl {k : Nat} {r : Nat → Int32} (hk : k < 6) : va_up (putW G σ st N m w) (55 + k) (aI G 6 r) = putW G σ st N m (w.1, w.2.1, w.2.2.1, va_up w.2.2.2 k r) := by
  funext q
  by_cases h : q = 55 + k
  · subst h; rw [up_s, pWr hk]; dsimp only; rw [up_s]
  · rw [up_n h]
    unfold putW
    by_cases h2 : 55 ≤ q ∧ q < 61
    · simp only [h2, and_self, if_true]
      have h3 : q - 55 ≠ k := by omega
      rw [up_n h3]
    · simp only [h2, if_false]
theorem pW_st {st2 : Int32} {N2 m2 : Nat} : va_up (putW G σ st N m w) 48 (ob 8 [.ref (adr G 49), .int st2, .int (nI N2), .int (nI m2), .ref (adr G 51), .ref (adr G 52), .ref (adr G 53), .ref (adr G 54)]) = putW G σ st2 N2 m2 w := by
  funext q
  by_cases h : q = 48
  · subst h; rfl
  · rw [up_n h]; unfold putW; simp only [h, if_false]
theorem c_wallValue (hN : N ≤ 6) : ConP G mX8_wallValue 1 [.ref (adr G 48)] (putW G σ st N m w) (rI (w.2.2.1 N) (putW G σ st N m w)) := by
  refine ConP.of rfl (Nat.le_of_ble_eq_true rfl) ?_
  refine k_aload_n (pc' := 1) dX8_wallValue_0 rfl ?_
  refine p_get (pc' := 4) clX8 (Nat.le_of_ble_eq_true rfl) fl_RX8_36 dX8_wallValue_1 (by first | assumption | decide | omega) pW48 rfl ?_
  refine k_aload_n (pc' := 5) dX8_wallValue_4 rfl ?_
  refine p_get (pc' := 8) clX8 (Nat.le_of_ble_eq_true rfl) fl_RX8_22 dX8_wallValue_5 (by first | assumption | decide | omega) pW48 rfl ?_
  refine p_ialdN (pc' := 9) dX8_wallValue_8 (by first | assumption | decide | omega) pW53 (by first | decide | omega) (by omega) ?_
  refine p_ireturn dX8_wallValue_9 rfl ?_
  exact ⟨rfl, rfl⟩
theorem c_leastAt (hN : N ≤ 6) {p : Nat} (hp : p < N) : ConP G mX8_leastAt 1 [.ref (adr G 48), .int (nI p)] (putW G σ st N m w) (rI (lA N m (w.2.1 p) p) (putW G σ st N m w)) := by
  refine ConP.of rfl (Nat.le_of_ble_eq_true rfl) ?_
  refine k_aload_n (pc' := 1) dX8_leastAt_0 rfl ?_
  refine p_get (pc' := 4) clX8 (Nat.le_of_ble_eq_true rfl) fl_RX8_26 dX8_leastAt_1 (by first | assumption | decide | omega) pW48 rfl ?_
  refine k_ineg (pc' := 5) dX8_leastAt_4 rfl ?_
  refine k_aload_n (pc' := 6) dX8_leastAt_5 rfl ?_
  refine p_get (pc' := 9) clX8 (Nat.le_of_ble_eq_true rfl) fl_RX8_33 dX8_leastAt_6 (by first | assumption | decide | omega) pW48 rfl ?_
  refine k_iload_n (pc' := 10) dX8_leastAt_9 rfl ?_
  refine p_ialdN (pc' := 11) dX8_leastAt_10 (by first | assumption | decide | omega) pW52 (by first | decide | omega) (by omega) ?_
  refine k_aload_n (pc' := 12) dX8_leastAt_11 rfl ?_
  refine p_get (pc' := 15) clX8 (Nat.le_of_ble_eq_true rfl) fl_RX8_26 dX8_leastAt_12 (by first | assumption | decide | omega) pW48 rfl ?_
  refine k_aload_n (pc' := 16) dX8_leastAt_15 rfl ?_
  refine p_get (pc' := 19) clX8 (Nat.le_of_ble_eq_true rfl) fl_RX8_22 dX8_leastAt_16 (by first | assumption | decide | omega) pW48 rfl ?_
  refine k_iconst (pc' := 20) (v := nI 1) dX8_leastAt_19 rfl ?_
  refine k_isub (pc' := 21) (v := nI (N - 1)) dX8_leastAt_20 (pk_sub (by omega)) ?_
  refine k_iload_n (pc' := 22) dX8_leastAt_21 rfl ?_
  refine k_isub (pc' := 23) (v := nI (N - 1 - p)) dX8_leastAt_22 (pk_sub (by omega)) ?_
  refine k_imul (pc' := 24) dX8_leastAt_23 rfl ?_
  refine k_isub (pc' := 25) dX8_leastAt_24 rfl ?_
  refine p_max (pc' := 28) dX8_leastAt_25 ml_RX8_66 (by decide) (Nat.le_of_ble_eq_true rfl) rfl ?_
  refine p_ireturn dX8_leastAt_28 rfl ?_
  exact ⟨rfl, rfl⟩
theorem c_greatestAt (hN : N ≤ 6) {p : Nat} (hp : p < N) : ConP G mX8_greatestAt 1 [.ref (adr G 48), .int (nI p)] (putW G σ st N m w) (rI (gA N m (w.2.1 p) p) (putW G σ st N m w)) := by
  refine ConP.of rfl (Nat.le_of_ble_eq_true rfl) ?_
  refine k_aload_n (pc' := 1) dX8_greatestAt_0 rfl ?_
  refine p_get (pc' := 4) clX8 (Nat.le_of_ble_eq_true rfl) fl_RX8_26 dX8_greatestAt_1 (by first | assumption | decide | omega) pW48 rfl ?_
  refine k_aload_n (pc' := 5) dX8_greatestAt_4 rfl ?_
  refine p_get (pc' := 8) clX8 (Nat.le_of_ble_eq_true rfl) fl_RX8_33 dX8_greatestAt_5 (by first | assumption | decide | omega) pW48 rfl ?_
  refine k_iload_n (pc' := 9) dX8_greatestAt_8 rfl ?_
  refine p_ialdN (pc' := 10) dX8_greatestAt_9 (by first | assumption | decide | omega) pW52 (by first | decide | omega) (by omega) ?_
  refine k_aload_n (pc' := 11) dX8_greatestAt_10 rfl ?_
  refine p_get (pc' := 14) clX8 (Nat.le_of_ble_eq_true rfl) fl_RX8_26 dX8_greatestAt_11 (by first | assumption | decide | omega) pW48 rfl ?_
  refine k_aload_n (pc' := 15) dX8_greatestAt_14 rfl ?_
  refine p_get (pc' := 18) clX8 (Nat.le_of_ble_eq_true rfl) fl_RX8_22 dX8_greatestAt_15 (by first | assumption | decide | omega) pW48 rfl ?_
  refine k_iconst (pc' := 19) (v := nI 1) dX8_greatestAt_18 rfl ?_
  refine k_isub (pc' := 20) (v := nI (N - 1)) dX8_greatestAt_19 (pk_sub (by omega)) ?_
  refine k_iload_n (pc' := 21) dX8_greatestAt_20 rfl ?_
  refine k_isub (pc' := 22) (v := nI (N - 1 - p)) dX8_greatestAt_21 (pk_sub (by omega)) ?_
  refine k_imul (pc' := 23) dX8_greatestAt_22 rfl ?_
  refine k_iadd (pc' := 24) dX8_greatestAt_23 rfl ?_
  refine p_min (pc' := 27) dX8_greatestAt_24 ml_RX8_72 (by decide) (Nat.le_of_ble_eq_true rfl) rfl ?_
  refine p_ireturn dX8_greatestAt_27 rfl ?_
  exact ⟨rfl, rfl⟩
theorem c_carry (hT : isT G σ 49 N ft) (h54 : σ 54 = aR G 5 6 (fun k => 55 + k)) {p : Nat} (hp : p < N) : ConP G mX8_carry 3 [.ref (adr G 48), .int (nI p)] (putW G σ st N m w) (rV (putW G σ st N m (car N ft p w))) := by
  have hN6 := hT.2.2.2.2.2
  refine ConP.of rfl (Nat.le_of_ble_eq_true rfl) ?_
  refine k_aload_n (pc' := 1) dX8_carry_0 rfl ?_
  refine p_get (pc' := 4) clX8 (Nat.le_of_ble_eq_true rfl) fl_RX8_33 dX8_carry_1 (by first | assumption | decide | omega) pW48 rfl ?_
  refine k_iload_n (pc' := 5) dX8_carry_4 rfl ?_
  refine k_iconst (pc' := 6) (v := nI 1) dX8_carry_5 rfl ?_
  refine k_iadd (pc' := 7) (v := nI (p + 1)) dX8_carry_6 (nI_add _ _) ?_
  refine k_aload_n (pc' := 8) dX8_carry_7 rfl ?_
  refine p_get (pc' := 11) clX8 (Nat.le_of_ble_eq_true rfl) fl_RX8_33 dX8_carry_8 (by first | assumption | decide | omega) pW48 rfl ?_
  refine k_iload_n (pc' := 12) dX8_carry_11 rfl ?_
  refine p_ialdN (pc' := 13) dX8_carry_12 (by first | assumption | decide | omega) pW52 (by first | decide | omega) (by omega) ?_
  refine k_aload_n (pc' := 14) dX8_carry_13 rfl ?_
  refine p_get (pc' := 17) clX8 (Nat.le_of_ble_eq_true rfl) fl_RX8_29 dX8_carry_14 (by first | assumption | decide | omega) pW48 rfl ?_
  refine k_iload_n (pc' := 18) dX8_carry_17 rfl ?_
  refine p_ialdN (pc' := 19) dX8_carry_18 (by first | assumption | decide | omega) pW51 (by first | decide | omega) (by omega) ?_
  refine k_isub (pc' := 20) dX8_carry_19 rfl ?_
  refine p_iastN (pc' := 21) (σ1 := putW G σ st N m (w.1, upd w.2.1 (p + 1) (w.2.1 p - w.1 p), w.2.2)) dX8_carry_20 (by first | assumption | decide | omega) pW52 (by first | decide | omega) (by omega) (by exact pW_rs) ?_
  refine k_aload_n (pc' := 22) dX8_carry_21 rfl ?_
  refine p_get (pc' := 25) clX8 (Nat.le_of_ble_eq_true rfl) fl_RX8_36 dX8_carry_22 (by first | assumption | decide | omega) pW48 rfl ?_
  refine k_iload_n (pc' := 26) dX8_carry_25 rfl ?_
  refine k_iconst (pc' := 27) (v := nI 1) dX8_carry_26 rfl ?_
  refine k_iadd (pc' := 28) (v := nI (p + 1)) dX8_carry_27 (nI_add _ _) ?_
  refine k_aload_n (pc' := 29) dX8_carry_28 rfl ?_
  refine p_get (pc' := 32) clX8 (Nat.le_of_ble_eq_true rfl) fl_RX8_36 dX8_carry_29 (by first | assumption | decide | omega) pW48 rfl ?_
  refine k_iload_n (pc' := 33) dX8_carry_32 rfl ?_
  refine p_ialdN (pc' := 34) dX8_carry_33 (by first | assumption | decide | omega) pW53 (by first | decide | omega) (by omega) ?_
  refine k_aload_n (pc' := 35) dX8_carry_34 rfl ?_
  refine p_get (pc' := 38) clX8 (Nat.le_of_ble_eq_true rfl) fl_RX8_29 dX8_carry_35 (by first | assumption | decide | omega) pW48 rfl ?_
  refine k_iload_n (pc' := 39) dX8_carry_38 rfl ?_
  refine p_ialdN (pc' := 40) dX8_carry_39 (by first | assumption | decide | omega) pW51 (by first | decide | omega) (by omega) ?_
  refine k_aload_n (pc' := 41) dX8_carry_40 rfl ?_
  refine p_get (pc' := 44) clX8 (Nat.le_of_ble_eq_true rfl) fl_RX8_41 dX8_carry_41 (by first | assumption | decide | omega) pW48 rfl ?_
  refine k_iload_n (pc' := 45) dX8_carry_44 rfl ?_
  refine p_aaldN (pc' := 46) (t0 := 5) dX8_carry_45 rfl rfl (by first | assumption | decide | omega) ((pWn (by omega)).trans h54) (by decide) (by omega) ?_
  refine k_iload_n (pc' := 47) dX8_carry_46 rfl ?_
  refine p_ialdN (pc' := 48) dX8_carry_47 (by show 55 + p < 104; omega) (pWr (by omega)) (by first | decide | omega) (by omega) ?_
  refine k_imul (pc' := 49) dX8_carry_48 rfl ?_
  refine k_iadd (pc' := 50) dX8_carry_49 rfl ?_
  refine p_iastN (pc' := 51) (σ1 := putW G σ st N m (w.1, upd w.2.1 (p + 1) (w.2.1 p - w.1 p), upd w.2.2.1 (p + 1) (w.2.2.1 p + w.1 p * w.2.2.2 p p), w.2.2.2)) dX8_carry_50 (by first | assumption | decide | omega) pW53 (by first | decide | omega) (by omega) (by exact pW_fv) ?_
  refine k_iload_n (pc' := 52) dX8_carry_51 rfl ?_
  refine k_iconst (pc' := 53) (v := nI 1) dX8_carry_52 rfl ?_
  refine k_iadd (pc' := 54) (v := nI (p + 1)) dX8_carry_53 (nI_add _ _) ?_
  refine k_istore_n (pc' := 55) dX8_carry_54 (Nat.le_of_ble_eq_true rfl) rfl ?_
  by_cases hl : p + 1 = N
  · have e : car N ft p w = (w.1, upd w.2.1 (p + 1) (w.2.1 p - w.1 p), upd w.2.2.1 (p + 1) (w.2.2.1 p + w.1 p * w.2.2.2 p p), w.2.2.2) := by
      unfold car
      rw [show N - (p + 1) = 0 by omega, upn, up_id rfl]
    rw [e]
    refine k_iload_n (pc' := 56) dX8_carry_55 rfl ?_
    refine k_aload_n (pc' := 57) dX8_carry_56 rfl ?_
    refine p_get (pc' := 60) clX8 (Nat.le_of_ble_eq_true rfl) fl_RX8_22 dX8_carry_57 (by first | assumption | decide | omega) pW48 rfl ?_
    refine k_icmp_ge (tgt := 104) (pc' := 63) dX8_carry_60 rfl (fun _ => ?_) (fun zz_ => absurd (nI_le (by omega) (by omega)) zz_)
    refine p_return dX8_carry_104 rfl ?_
    exact ⟨rfl, rfl⟩
  refine loopU (fun j row => OkP G mX8_carry 3 (rV (putW G σ st N m (car N ft p w))) 55 [some (.ref (adr G 48)), some (.int (nI p)), some (.int (nI j))] [] (putW G σ st N m (w.1, upd w.2.1 (p + 1) (w.2.1 p - w.1 p), upd w.2.2.1 (p + 1) (w.2.2.1 p + w.1 p * w.2.2.2 p p), va_up w.2.2.2 (p + 1) row))) (car1 N ft p w) N (p + 1) (N - (p + 1)) (w.2.2.2 (p + 1)) (by omega) ?_ ?_ |> fun h => by rw [up_id rfl] at h; exact h
  · intro j row hpj hj ih
    have e1 : va_up w.2.2.2 (p + 1) row p = w.2.2.2 p := up_n (by omega)
    have e2 : va_up w.2.2.2 (p + 1) row (p + 1) = row := up_s
    refine k_iload_n (pc' := 56) dX8_carry_55 rfl ?_
    refine k_aload_n (pc' := 57) dX8_carry_56 rfl ?_
    refine p_get (pc' := 60) clX8 (Nat.le_of_ble_eq_true rfl) fl_RX8_22 dX8_carry_57 (by first | assumption | decide | omega) pW48 rfl ?_
    refine k_icmp_ge (tgt := 104) (pc' := 63) dX8_carry_60 rfl (fun zz_ => absurd zz_ (nI_ge (by omega) (by omega))) (fun _ => ?_)
    refine k_aload_n (pc' := 64) dX8_carry_63 rfl ?_
    refine p_get (pc' := 67) clX8 (Nat.le_of_ble_eq_true rfl) fl_RX8_41 dX8_carry_64 (by first | assumption | decide | omega) pW48 rfl ?_
    refine k_iload_n (pc' := 68) dX8_carry_67 rfl ?_
    refine k_iconst (pc' := 69) (v := nI 1) dX8_carry_68 rfl ?_
    refine k_iadd (pc' := 70) (v := nI (p + 1)) dX8_carry_69 (nI_add _ _) ?_
    refine p_aaldN (pc' := 71) (t0 := 5) dX8_carry_70 rfl rfl (by first | assumption | decide | omega) ((pWn (by omega)).trans h54) (by decide) (by omega) ?_
    refine k_iload_n (pc' := 72) dX8_carry_71 rfl ?_
    refine k_aload_n (pc' := 73) dX8_carry_72 rfl ?_
    refine p_get (pc' := 76) clX8 (Nat.le_of_ble_eq_true rfl) fl_RX8_41 dX8_carry_73 (by first | assumption | decide | omega) pW48 rfl ?_
    refine k_iload_n (pc' := 77) dX8_carry_76 rfl ?_
    refine p_aaldN (pc' := 78) (t0 := 5) dX8_carry_77 rfl rfl (by first | assumption | decide | omega) ((pWn (by omega)).trans h54) (by decide) (by omega) ?_
    refine k_iload_n (pc' := 79) dX8_carry_78 rfl ?_
    refine p_ialdN (pc' := 80) dX8_carry_79 (by show 55 + p < 104; omega) (pWr (by omega)) (by first | decide | omega) (by omega) ?_
    refine k_aload_n (pc' := 81) dX8_carry_80 rfl ?_
    refine p_get (pc' := 84) clX8 (Nat.le_of_ble_eq_true rfl) fl_RX8_29 dX8_carry_81 (by first | assumption | decide | omega) pW48 rfl ?_
    refine k_iload_n (pc' := 85) dX8_carry_84 rfl ?_
    refine p_ialdN (pc' := 86) dX8_carry_85 (by first | assumption | decide | omega) pW51 (by first | decide | omega) (by omega) ?_
    refine k_aload_n (pc' := 87) dX8_carry_86 rfl ?_
    refine p_get (pc' := 90) clX8 (Nat.le_of_ble_eq_true rfl) fl_RX8_12 dX8_carry_87 (by first | assumption | decide | omega) pW48 rfl ?_
    refine k_iload_n (pc' := 91) dX8_carry_90 rfl ?_
    refine k_iload_n (pc' := 92) dX8_carry_91 rfl ?_
    refine p_vI (ν := mX6_between) (pc' := 95) dX8_carry_92 ml_RX8_75 mo_X6_between mv_X6_between clX6 (Nat.le_of_ble_eq_true rfl) rfl rfl (Nat.le_of_ble_eq_true rfl) (by first | assumption | decide | omega) (pW_T hT (by omega)).2.2.1 (by decide) (c_between (pW_T hT (by omega)) (by omega) (by omega)) ?_
    refine k_imul (pc' := 96) dX8_carry_95 rfl ?_
    refine k_iadd (pc' := 97) dX8_carry_96 rfl ?_
    refine p_iastN (pc' := 98) (σ1 := putW G σ st N m (w.1, upd w.2.1 (p + 1) (w.2.1 p - w.1 p), upd w.2.2.1 (p + 1) (w.2.2.1 p + w.1 p * w.2.2.2 p p), va_up w.2.2.2 (p + 1) (car1 N ft p w j row))) dX8_carry_97 (by show 55 + (p + 1) < 104; omega) (pWr (by omega)) (by first | decide | omega) (by omega) (by exact (by rw [pW_pl (by omega)]; dsimp only; rw [up_up, e1, e2]; rfl)) ?_
    refine k_iinc (pc' := 101) (v := nI (j + 1)) dX8_carry_98 rfl (nI_inc _) (Nat.le_of_ble_eq_true rfl) rfl ?_
    refine k_goto (tgt := 55) dX8_carry_101 rfl ?_
    exact ih
  · refine k_iload_n (pc' := 56) dX8_carry_55 rfl ?_
    refine k_aload_n (pc' := 57) dX8_carry_56 rfl ?_
    refine p_get (pc' := 60) clX8 (Nat.le_of_ble_eq_true rfl) fl_RX8_22 dX8_carry_57 (by first | assumption | decide | omega) pW48 rfl ?_
    refine k_icmp_ge (tgt := 104) (pc' := 63) dX8_carry_60 rfl (fun _ => ?_) (fun zz_ => absurd (nI_le (by omega) (by omega)) zz_)
    refine p_return dX8_carry_104 rfl ?_
    exact ⟨rfl, rfl⟩
theorem c_fillFrom (hT : isT G σ 49 N ft) (h54 : σ 54 = aR G 5 6 (fun k => 55 + k)) {p : Nat} (hp : p ≤ N) : ConP G mX8_fillFrom 4 [.ref (adr G 48), .int (nI p)] (putW G σ st N m w) (rV (putW G σ st N m (fil N m ft p w))) := by
  have hN6 := hT.2.2.2.2.2
  refine ConP.of rfl (Nat.le_of_ble_eq_true rfl) ?_
  refine k_iload_n (pc' := 1) dX8_fillFrom_0 rfl ?_
  refine k_istore_n (pc' := 2) dX8_fillFrom_1 (Nat.le_of_ble_eq_true rfl) rfl ?_
  refine loopU (fun j w' => OkP G mX8_fillFrom 4 (rV (putW G σ st N m (fil N m ft p w))) 2 [some (.ref (adr G 48)), some (.int (nI p)), some (.int (nI j))] [] (putW G σ st N m w')) (fil1 N m ft) N p (N - p) w (by omega) ?_ ?_
  · intro j w' hpj hj ih
    refine k_iload_n (pc' := 3) dX8_fillFrom_2 rfl ?_
    refine k_aload_n (pc' := 4) dX8_fillFrom_3 rfl ?_
    refine p_get (pc' := 7) clX8 (Nat.le_of_ble_eq_true rfl) fl_RX8_22 dX8_fillFrom_4 (by first | assumption | decide | omega) pW48 rfl ?_
    refine k_icmp_ge (tgt := 32) (pc' := 10) dX8_fillFrom_7 rfl (fun zz_ => absurd zz_ (nI_ge (by omega) (by omega))) (fun _ => ?_)
    refine k_aload_n (pc' := 11) dX8_fillFrom_10 rfl ?_
    refine p_get (pc' := 14) clX8 (Nat.le_of_ble_eq_true rfl) fl_RX8_29 dX8_fillFrom_11 (by first | assumption | decide | omega) pW48 rfl ?_
    refine k_iload_n (pc' := 15) dX8_fillFrom_14 rfl ?_
    refine k_aload_n (pc' := 16) dX8_fillFrom_15 rfl ?_
    refine k_iload_n (pc' := 17) dX8_fillFrom_16 rfl ?_
    refine p_vI (ν := mX8_leastAt) (pc' := 20) dX8_fillFrom_17 ml_RX8_63 mo_X8_leastAt mv_X8_leastAt clX8 (Nat.le_of_ble_eq_true rfl) rfl rfl (Nat.le_of_ble_eq_true rfl) (by first | assumption | decide | omega) pW48 (by decide) (c_leastAt hN6 hj) ?_
    refine p_iastN (pc' := 21) (σ1 := putW G σ st N m (upd w'.1 j (lA N m (w'.2.1 j) j), w'.2)) dX8_fillFrom_20 (by first | assumption | decide | omega) pW51 (by first | decide | omega) (by omega) (by exact pW_b) ?_
    refine k_aload_n (pc' := 22) dX8_fillFrom_21 rfl ?_
    refine k_iload_n (pc' := 23) dX8_fillFrom_22 rfl ?_
    refine p_vV (ν := mX8_carry) (pc' := 26) dX8_fillFrom_23 ml_RX8_57 mo_X8_carry mv_X8_carry clX8 (Nat.le_of_ble_eq_true rfl) rfl rfl (Nat.le_of_ble_eq_true rfl) (by first | assumption | decide | omega) pW48 (by decide) (c_carry hT h54 hj) ?_
    refine k_iinc (pc' := 29) (v := nI (j + 1)) dX8_fillFrom_26 rfl (nI_inc _) (Nat.le_of_ble_eq_true rfl) rfl ?_
    refine k_goto (tgt := 2) dX8_fillFrom_29 rfl ?_
    exact ih
  · refine k_iload_n (pc' := 3) dX8_fillFrom_2 rfl ?_
    refine k_aload_n (pc' := 4) dX8_fillFrom_3 rfl ?_
    refine p_get (pc' := 7) clX8 (Nat.le_of_ble_eq_true rfl) fl_RX8_22 dX8_fillFrom_4 (by first | assumption | decide | omega) pW48 rfl ?_
    refine k_icmp_ge (tgt := 32) (pc' := 10) dX8_fillFrom_7 rfl (fun _ => ?_) (fun zz_ => absurd (nI_le (by omega) (by omega)) zz_)
    refine p_return dX8_fillFrom_32 rfl ?_
    exact ⟨rfl, rfl⟩
theorem pW_putT {N2 : Nat} {f : Nat → Int32} : putT G (putW G σ st N m w) 49 N2 f = putW G (putT G σ 49 N2 f) st N m w := by
  funext q
  by_cases h : q = 49
  · subst h; rw [putT_t, pWn (by omega), putT_t]
  · by_cases h2 : q = 50
    · subst h2; rw [show (50 : Nat) = 49 + 1 from rfl, putT_f, pWn (by omega), putT_f]
    · rw [putT_n h h2]
      unfold putW
      rw [putT_n h h2]
theorem pW_54 {N2 : Nat} {f : Nat → Int32} (h54 : σ 54 = aR G 5 6 (fun k => 55 + k)) : putT G σ 49 N2 f 54 = aR G 5 6 (fun k => 55 + k) := (putT_n (by decide) (by decide)).trans h54
theorem c_wkStart {t M m' N0 : Nat} {f fa : Nat → Int32} (hT : isT G σ 49 N0 fa) (hO : isT G σ t N f) (ht : t + 1 < 48) (h54 : σ 54 = aR G 5 6 (fun k => 55 + k)) : ConP G mX8_start 5 [.ref (adr G 48), .ref (adr G t), .int (nI m)] (putW G σ st M m' w) (rV (putW G (putT G σ 49 N (va_cpy f fa 0 0 15)) 1 N m (fil N m (va_cpy f fa 0 0 15) 0 (w.1, upd w.2.1 0 (nI 1), w.2.2)))) := by
  have hN := hO.2.2.2.2.1
  have hN6 := hO.2.2.2.2.2
  have hT2 := putT_T (f := va_cpy f fa 0 0 15) hT hN hN6
  have hO2 := putT_far (t := 49) (M := N) (f := va_cpy f fa 0 0 15) hO (by omega) (by omega) (by omega)
  have h542 := pW_54 (N2 := N) (f := va_cpy f fa 0 0 15) h54
  refine ConP.of rfl (Nat.le_of_ble_eq_true rfl) ?_
  refine k_aload_n (pc' := 1) dX8_start_0 rfl ?_
  refine p_get (pc' := 4) clX8 (Nat.le_of_ble_eq_true rfl) fl_RX8_12 dX8_start_1 (by first | assumption | decide | omega) pW48 rfl ?_
  refine k_aload_n (pc' := 5) dX8_start_4 rfl ?_
  refine p_vV (ν := mX6_copyFrom) (pc' := 8) dX8_start_5 ml_RX8_44 mo_X6_copyFrom mv_X6_copyFrom clX6 (Nat.le_of_ble_eq_true rfl) rfl rfl (Nat.le_of_ble_eq_true rfl) (by first | assumption | decide | omega) (pW_T hT (by omega)).2.2.1 (by decide) (c_copyFrom (pW_T hT (by omega)) (pW_T hO (by omega)) (by omega) (by omega) (by omega)) ?_
  rw [pW_putT]
  refine k_aload_n (pc' := 9) dX8_start_8 rfl ?_
  refine k_aload_n (pc' := 10) dX8_start_9 rfl ?_
  refine p_get (pc' := 13) clX6 (Nat.le_of_ble_eq_true rfl) fl_RX8_48 dX8_start_10 hO.1 (pW_T hO2 (by omega)).2.2.1 rfl ?_
  refine p_putI (pc' := 16) (σ1 := putW G (putT G σ 49 N (va_cpy f fa 0 0 15)) st N m' w) clX8 (Nat.le_of_ble_eq_true rfl) fl_RX8_22 dX8_start_13 rfl (Or.inl rfl) (by first | assumption | decide | omega) pW48 (Nat.le_of_ble_eq_true rfl) (by exact pW_st) ?_
  refine k_aload_n (pc' := 17) dX8_start_16 rfl ?_
  refine k_iload_n (pc' := 18) dX8_start_17 rfl ?_
  refine p_putI (pc' := 21) (σ1 := putW G (putT G σ 49 N (va_cpy f fa 0 0 15)) st N m w) clX8 (Nat.le_of_ble_eq_true rfl) fl_RX8_26 dX8_start_18 rfl (Or.inl rfl) (by first | assumption | decide | omega) pW48 (Nat.le_of_ble_eq_true rfl) (by exact pW_st) ?_
  refine k_aload_n (pc' := 22) dX8_start_21 rfl ?_
  refine p_get (pc' := 25) clX8 (Nat.le_of_ble_eq_true rfl) fl_RX8_33 dX8_start_22 (by first | assumption | decide | omega) pW48 rfl ?_
  refine k_iconst (pc' := 26) (v := nI 0) dX8_start_25 rfl ?_
  refine k_iconst (pc' := 27) (v := nI 1) dX8_start_26 rfl ?_
  refine p_iastN (pc' := 28) (σ1 := putW G (putT G σ 49 N (va_cpy f fa 0 0 15)) st N m (w.1, upd w.2.1 0 (nI 1), w.2.2)) dX8_start_27 (by first | assumption | decide | omega) pW52 (by first | decide | omega) (by omega) (by exact pW_rs) ?_
  refine k_aload_n (pc' := 29) dX8_start_28 rfl ?_
  refine k_iconst (pc' := 30) (v := nI 0) dX8_start_29 rfl ?_
  refine p_vV (ν := mX8_fillFrom) (pc' := 33) dX8_start_30 ml_RX8_49 mo_X8_fillFrom mv_X8_fillFrom clX8 (Nat.le_of_ble_eq_true rfl) rfl rfl (Nat.le_of_ble_eq_true rfl) (by first | assumption | decide | omega) pW48 (by decide) (c_fillFrom hT2 h542 (by omega)) ?_
  refine k_aload_n (pc' := 34) dX8_start_33 rfl ?_
  refine k_iconst (pc' := 35) (v := nI 1) dX8_start_34 rfl ?_
  refine p_putI (pc' := 38) (σ1 := putW G (putT G σ 49 N (va_cpy f fa 0 0 15)) (nI 1) N m (fil N m (va_cpy f fa 0 0 15) 0 (w.1, upd w.2.1 0 (nI 1), w.2.2))) clX8 (Nat.le_of_ble_eq_true rfl) fl_RX8_18 dX8_start_35 rfl (Or.inr ⟨rfl, Or.inr rfl⟩) (by first | assumption | decide | omega) pW48 (Nat.le_of_ble_eq_true rfl) (by exact pW_st) ?_
  refine p_return dX8_start_38 rfl ?_
  exact ⟨rfl, rfl⟩
/-- a counter that goes down below 0 -/
def pv : Nat → Int32
  | 0 => -1
  | k + 1 => nI k
theorem pv_dec (k : Nat) : nI k + Int32.ofInt (-1) = pv k := by
  cases k with
  | zero => rfl
  | succ k => exact pk_m1 k
def goS (G : GT) (σ : Sto) (N m : Nat) (w : WS) (o : Option WS) : Sto := match o with
  | none => putW G σ 0 N m w
  | some w' => putW G σ 1 N m w'
theorem c_goOn (hT : isT G σ 49 N ft) (h54 : σ 54 = aR G 5 6 (fun k => 55 + k)) : ConP G mX8_goOn 5 [.ref (adr G 48)] (putW G σ st N m w) (rV (goS G σ N m w (goO N m ft w))) := by
  have hN := hT.2.2.2.2.1
  have hN6 := hT.2.2.2.2.2
  refine ConP.of rfl (Nat.le_of_ble_eq_true rfl) ?_
  refine k_aload_n (pc' := 1) dX8_goOn_0 rfl ?_
  refine k_iconst (pc' := 2) (v := nI 0) dX8_goOn_1 rfl ?_
  refine p_putI (pc' := 5) (σ1 := putW G σ 0 N m w) clX8 (Nat.le_of_ble_eq_true rfl) fl_RX8_18 dX8_goOn_2 rfl (Or.inr ⟨rfl, Or.inl rfl⟩) (by first | assumption | decide | omega) pW48 (Nat.le_of_ble_eq_true rfl) (by exact pW_st) ?_
  refine k_aload_n (pc' := 6) dX8_goOn_5 rfl ?_
  refine p_get (pc' := 9) clX8 (Nat.le_of_ble_eq_true rfl) fl_RX8_22 dX8_goOn_6 (by first | assumption | decide | omega) pW48 rfl ?_
  refine k_iconst (pc' := 10) (v := nI 2) dX8_goOn_9 rfl ?_
  refine k_isub (pc' := 11) (v := pv (N - 1)) dX8_goOn_10 (by rw [show N - 1 = (N - 2) + 1 by omega]; exact pk_sub (by omega)) ?_
  refine k_istore_n (pc' := 12) dX8_goOn_11 (Nat.le_of_ble_eq_true rfl) rfl ?_
  have main : ∀ k, k ≤ N - 1 → ∀ o, goD N m ft w k = o → OkP G mX8_goOn 5 (rV (goS G σ N m w o)) 12 [some (.ref (adr G 48)), some (.int (pv k))] [] (putW G σ 0 N m w) := by
    intro k
    induction k with
    | zero =>
      intro hk o ho
      refine k_iload_n (pc' := 13) dX8_goOn_12 rfl ?_
      refine k_if_lt (tgt := 70) (pc' := 16) dX8_goOn_13 rfl (fun _ => ?_) (fun zz_ => absurd (by decide) zz_)
      refine p_return dX8_goOn_70 rfl ?_
      subst ho
      exact ⟨rfl, rfl⟩
    | succ k ih =>
      intro hk o ho
      unfold goD at ho
      by_cases hc : w.1 k < gA N m (w.2.1 k) k
      · rw [if_pos hc] at ho
        subst ho
        refine k_iload_n (pc' := 13) dX8_goOn_12 rfl ?_
        refine k_if_lt (tgt := 70) (pc' := 16) dX8_goOn_13 rfl (fun zz_ => absurd zz_ (nI_pos (by omega))) (fun _ => ?_)
        refine k_aload_n (pc' := 17) dX8_goOn_16 rfl ?_
        refine p_get (pc' := 20) clX8 (Nat.le_of_ble_eq_true rfl) fl_RX8_18 dX8_goOn_17 (by first | assumption | decide | omega) pW48 rfl ?_
        refine k_if_ne (tgt := 70) (pc' := 23) dX8_goOn_20 rfl (fun zz_ => absurd rfl zz_) (fun _ => ?_)
        refine k_aload_n (pc' := 24) dX8_goOn_23 rfl ?_
        refine p_get (pc' := 27) clX8 (Nat.le_of_ble_eq_true rfl) fl_RX8_29 dX8_goOn_24 (by first | assumption | decide | omega) pW48 rfl ?_
        refine k_iload_n (pc' := 28) dX8_goOn_27 rfl ?_
        refine p_ialdN (pc' := 29) dX8_goOn_28 (by first | assumption | decide | omega) pW51 (by first | decide | omega) (by omega) ?_
        refine k_aload_n (pc' := 30) dX8_goOn_29 rfl ?_
        refine k_iload_n (pc' := 31) dX8_goOn_30 rfl ?_
        refine p_vI (ν := mX8_greatestAt) (pc' := 34) dX8_goOn_31 ml_RX8_53 mo_X8_greatestAt mv_X8_greatestAt clX8 (Nat.le_of_ble_eq_true rfl) rfl rfl (Nat.le_of_ble_eq_true rfl) (by first | assumption | decide | omega) pW48 (by decide) (c_greatestAt hN6 (by omega)) ?_
        refine k_icmp_ge (tgt := 64) (pc' := 37) dX8_goOn_34 rfl (fun zz_ => absurd zz_ (by rw [Int32.not_le]; exact hc)) (fun _ => ?_)
        refine k_aload_n (pc' := 38) dX8_goOn_37 rfl ?_
        refine p_get (pc' := 41) clX8 (Nat.le_of_ble_eq_true rfl) fl_RX8_29 dX8_goOn_38 (by first | assumption | decide | omega) pW48 rfl ?_
        refine k_iload_n (pc' := 42) dX8_goOn_41 rfl ?_
        refine k_dup2 (pc' := 43) dX8_goOn_42 rfl rfl ?_
        refine p_ialdN (pc' := 44) dX8_goOn_43 (by first | assumption | decide | omega) pW51 (by first | decide | omega) (by omega) ?_
        refine k_iconst (pc' := 45) (v := nI 1) dX8_goOn_44 rfl ?_
        refine k_iadd (pc' := 46) dX8_goOn_45 rfl ?_
        refine p_iastN (pc' := 47) (σ1 := putW G σ 0 N m (upd w.1 k (w.1 k + nI 1), w.2)) dX8_goOn_46 (by first | assumption | decide | omega) pW51 (by first | decide | omega) (by omega) (by exact pW_b) ?_
        refine k_aload_n (pc' := 48) dX8_goOn_47 rfl ?_
        refine k_iload_n (pc' := 49) dX8_goOn_48 rfl ?_
        refine p_vV (ν := mX8_carry) (pc' := 52) dX8_goOn_49 ml_RX8_57 mo_X8_carry mv_X8_carry clX8 (Nat.le_of_ble_eq_true rfl) rfl rfl (Nat.le_of_ble_eq_true rfl) (by first | assumption | decide | omega) pW48 (by decide) (c_carry hT h54 (by omega)) ?_
        refine k_aload_n (pc' := 53) dX8_goOn_52 rfl ?_
        refine k_iload_n (pc' := 54) dX8_goOn_53 rfl ?_
        refine k_iconst (pc' := 55) (v := nI 1) dX8_goOn_54 rfl ?_
        refine k_iadd (pc' := 56) (v := nI (k + 1)) dX8_goOn_55 (nI_add _ _) ?_
        refine p_vV (ν := mX8_fillFrom) (pc' := 59) dX8_goOn_56 ml_RX8_49 mo_X8_fillFrom mv_X8_fillFrom clX8 (Nat.le_of_ble_eq_true rfl) rfl rfl (Nat.le_of_ble_eq_true rfl) (by first | assumption | decide | omega) pW48 (by decide) (c_fillFrom hT h54 (by omega)) ?_
        refine k_aload_n (pc' := 60) dX8_goOn_59 rfl ?_
        refine k_iconst (pc' := 61) (v := nI 1) dX8_goOn_60 rfl ?_
        refine p_putI (pc' := 64) (σ1 := putW G σ (nI 1) N m (fil N m ft (k + 1) (car N ft k (upd w.1 k (w.1 k + nI 1), w.2)))) clX8 (Nat.le_of_ble_eq_true rfl) fl_RX8_18 dX8_goOn_61 rfl (Or.inr ⟨rfl, Or.inr rfl⟩) (by first | assumption | decide | omega) pW48 (Nat.le_of_ble_eq_true rfl) (by exact pW_st) ?_
        refine k_iinc (pc' := 67) (v := pv k) dX8_goOn_64 rfl (pv_dec k) (Nat.le_of_ble_eq_true rfl) rfl ?_
        refine k_goto (tgt := 12) dX8_goOn_67 rfl ?_
        cases k with
        | zero =>
          refine k_iload_n (pc' := 13) dX8_goOn_12 rfl ?_
          refine k_if_lt (tgt := 70) (pc' := 16) dX8_goOn_13 rfl (fun _ => ?_) (fun zz_ => absurd (by decide) zz_)
          refine p_return dX8_goOn_70 rfl ?_
          exact ⟨rfl, rfl⟩
        | succ k =>
          refine k_iload_n (pc' := 13) dX8_goOn_12 rfl ?_
          refine k_if_lt (tgt := 70) (pc' := 16) dX8_goOn_13 rfl (fun zz_ => absurd zz_ (nI_pos (by omega))) (fun _ => ?_)
          refine k_aload_n (pc' := 17) dX8_goOn_16 rfl ?_
          refine p_get (pc' := 20) clX8 (Nat.le_of_ble_eq_true rfl) fl_RX8_18 dX8_goOn_17 (by first | assumption | decide | omega) pW48 rfl ?_
          refine k_if_ne (tgt := 70) (pc' := 23) dX8_goOn_20 rfl (fun _ => ?_) (fun zz_ => absurd zz_ (by decide))
          refine p_return dX8_goOn_70 rfl ?_
          exact ⟨rfl, rfl⟩
      · rw [if_neg hc] at ho
        refine k_iload_n (pc' := 13) dX8_goOn_12 rfl ?_
        refine k_if_lt (tgt := 70) (pc' := 16) dX8_goOn_13 rfl (fun zz_ => absurd zz_ (nI_pos (by omega))) (fun _ => ?_)
        refine k_aload_n (pc' := 17) dX8_goOn_16 rfl ?_
        refine p_get (pc' := 20) clX8 (Nat.le_of_ble_eq_true rfl) fl_RX8_18 dX8_goOn_17 (by first | assumption | decide | omega) pW48 rfl ?_
        refine k_if_ne (tgt := 70) (pc' := 23) dX8_goOn_20 rfl (fun zz_ => absurd rfl zz_) (fun _ => ?_)
        refine k_aload_n (pc' := 24) dX8_goOn_23 rfl ?_
        refine p_get (pc' := 27) clX8 (Nat.le_of_ble_eq_true rfl) fl_RX8_29 dX8_goOn_24 (by first | assumption | decide | omega) pW48 rfl ?_
        refine k_iload_n (pc' := 28) dX8_goOn_27 rfl ?_
        refine p_ialdN (pc' := 29) dX8_goOn_28 (by first | assumption | decide | omega) pW51 (by first | decide | omega) (by omega) ?_
        refine k_aload_n (pc' := 30) dX8_goOn_29 rfl ?_
        refine k_iload_n (pc' := 31) dX8_goOn_30 rfl ?_
        refine p_vI (ν := mX8_greatestAt) (pc' := 34) dX8_goOn_31 ml_RX8_53 mo_X8_greatestAt mv_X8_greatestAt clX8 (Nat.le_of_ble_eq_true rfl) rfl rfl (Nat.le_of_ble_eq_true rfl) (by first | assumption | decide | omega) pW48 (by decide) (c_greatestAt hN6 (by omega)) ?_
        refine k_icmp_ge (tgt := 64) (pc' := 37) dX8_goOn_34 rfl (fun _ => ?_) (fun zz_ => absurd (by rw [← Int32.not_lt]; exact hc) zz_)
        refine k_iinc (pc' := 67) (v := pv k) dX8_goOn_64 rfl (pv_dec k) (Nat.le_of_ble_eq_true rfl) rfl ?_
        refine k_goto (tgt := 12) dX8_goOn_67 rfl ?_
        exact ih (by omega) o ho
  exact main (N - 1) (Nat.le_refl _) _ rfl
def itG (N m : Nat) (ft : Nat → Int32) : Nat → WS → Int32 × WS
  | 0, w => (1, w)
  | T + 1, w => match goO N m ft w with
    | none => (0, w)
    | some w' => itG N m ft T w'
theorem c_goOnTimes (hT : isT G σ 49 N ft) (h54 : σ 54 = aR G 5 6 (fun k => 55 + k)) {T : Nat} (hTT : T < 2 ^ 31) : ConP G mX8_goOnTimes 6 [.ref (adr G 48), .int (nI T)] (putW G σ 1 N m w) (rV (putW G σ (itG N m ft (min T 16807) w).1 N m (itG N m ft (min T 16807) w).2)) := by
  refine ConP.of rfl (Nat.le_of_ble_eq_true rfl) ?_
  refine k_iconst (pc' := 1) (v := nI 0) dX8_goOnTimes_0 rfl ?_
  refine k_istore_n (pc' := 2) dX8_goOnTimes_1 (Nat.le_of_ble_eq_true rfl) rfl ?_
  have main : ∀ n k w', k + n = min T 16807 → ∀ r, itG N m ft n w' = r → OkP G mX8_goOnTimes 6 (rV (putW G σ r.1 N m r.2)) 2 [some (.ref (adr G 48)), some (.int (nI T)), some (.int (nI k))] [] (putW G σ 1 N m w') := by
    intro n
    induction n with
    | zero =>
      intro k w' hk r hr
      subst hr
      by_cases hkT : T ≤ k
      · refine k_iload_n (pc' := 3) dX8_goOnTimes_2 rfl ?_
        refine k_iload_n (pc' := 4) dX8_goOnTimes_3 rfl ?_
        refine k_icmp_ge (tgt := 31) (pc' := 7) dX8_goOnTimes_4 rfl (fun _ => ?_) (fun zz_ => absurd (nI_le (by omega) (by omega)) zz_)
        refine p_return dX8_goOnTimes_31 rfl ?_
        exact ⟨rfl, rfl⟩
      · refine k_iload_n (pc' := 3) dX8_goOnTimes_2 rfl ?_
        refine k_iload_n (pc' := 4) dX8_goOnTimes_3 rfl ?_
        refine k_icmp_ge (tgt := 31) (pc' := 7) dX8_goOnTimes_4 rfl (fun zz_ => absurd zz_ (nI_ge (by omega) (by omega))) (fun _ => ?_)
        refine k_iload_n (pc' := 8) dX8_goOnTimes_7 rfl ?_
        refine k_sipush (pc' := 11) (v := nI 16807) dX8_goOnTimes_8 rfl ?_
        refine k_icmp_ge (tgt := 31) (pc' := 14) dX8_goOnTimes_11 rfl (fun _ => ?_) (fun zz_ => absurd (nI_le (by omega) (by omega)) zz_)
        refine p_return dX8_goOnTimes_31 rfl ?_
        exact ⟨rfl, rfl⟩
    | succ n ih =>
      intro k w' hk r hr
      refine k_iload_n (pc' := 3) dX8_goOnTimes_2 rfl ?_
      refine k_iload_n (pc' := 4) dX8_goOnTimes_3 rfl ?_
      refine k_icmp_ge (tgt := 31) (pc' := 7) dX8_goOnTimes_4 rfl (fun zz_ => absurd zz_ (nI_ge (by omega) (by omega))) (fun _ => ?_)
      refine k_iload_n (pc' := 8) dX8_goOnTimes_7 rfl ?_
      refine k_sipush (pc' := 11) (v := nI 16807) dX8_goOnTimes_8 rfl ?_
      refine k_icmp_ge (tgt := 31) (pc' := 14) dX8_goOnTimes_11 rfl (fun zz_ => absurd zz_ (nI_ge (by omega) (by omega))) (fun _ => ?_)
      refine k_aload_n (pc' := 15) dX8_goOnTimes_14 rfl ?_
      refine p_get (pc' := 18) clX8 (Nat.le_of_ble_eq_true rfl) fl_RX8_18 dX8_goOnTimes_15 (by first | assumption | decide | omega) pW48 rfl ?_
      refine k_if_eq (tgt := 31) (pc' := 21) dX8_goOnTimes_18 rfl (fun zz_ => absurd zz_ (by decide)) (fun _ => ?_)
      refine k_aload_n (pc' := 22) dX8_goOnTimes_21 rfl ?_
      refine p_vV (ν := mX8_goOn) (pc' := 25) dX8_goOnTimes_22 ml_RX8_60 mo_X8_goOn mv_X8_goOn clX8 (Nat.le_of_ble_eq_true rfl) rfl rfl (Nat.le_of_ble_eq_true rfl) (by first | assumption | decide | omega) pW48 (by decide) (c_goOn hT h54) ?_
      unfold itG at hr
      cases ho : goO N m ft w' with
      | none =>
        rw [ho] at hr
        subst hr
        dsimp only [goS]
        refine k_iinc (pc' := 28) (v := nI (k + 1)) dX8_goOnTimes_25 rfl (nI_inc _) (Nat.le_of_ble_eq_true rfl) rfl ?_
        refine k_goto (tgt := 2) dX8_goOnTimes_28 rfl ?_
        by_cases hkT : T ≤ k + 1
        · refine k_iload_n (pc' := 3) dX8_goOnTimes_2 rfl ?_
          refine k_iload_n (pc' := 4) dX8_goOnTimes_3 rfl ?_
          refine k_icmp_ge (tgt := 31) (pc' := 7) dX8_goOnTimes_4 rfl (fun _ => ?_) (fun zz_ => absurd (nI_le (by omega) (by omega)) zz_)
          refine p_return dX8_goOnTimes_31 rfl ?_
          exact ⟨rfl, rfl⟩
        · by_cases hk2 : 16807 ≤ k + 1
          · refine k_iload_n (pc' := 3) dX8_goOnTimes_2 rfl ?_
            refine k_iload_n (pc' := 4) dX8_goOnTimes_3 rfl ?_
            refine k_icmp_ge (tgt := 31) (pc' := 7) dX8_goOnTimes_4 rfl (fun zz_ => absurd zz_ (nI_ge (by omega) (by omega))) (fun _ => ?_)
            refine k_iload_n (pc' := 8) dX8_goOnTimes_7 rfl ?_
            refine k_sipush (pc' := 11) (v := nI 16807) dX8_goOnTimes_8 rfl ?_
            refine k_icmp_ge (tgt := 31) (pc' := 14) dX8_goOnTimes_11 rfl (fun _ => ?_) (fun zz_ => absurd (nI_le (by omega) (by omega)) zz_)
            refine p_return dX8_goOnTimes_31 rfl ?_
            exact ⟨rfl, rfl⟩
          · refine k_iload_n (pc' := 3) dX8_goOnTimes_2 rfl ?_
            refine k_iload_n (pc' := 4) dX8_goOnTimes_3 rfl ?_
            refine k_icmp_ge (tgt := 31) (pc' := 7) dX8_goOnTimes_4 rfl (fun zz_ => absurd zz_ (nI_ge (by omega) (by omega))) (fun _ => ?_)
            refine k_iload_n (pc' := 8) dX8_goOnTimes_7 rfl ?_
            refine k_sipush (pc' := 11) (v := nI 16807) dX8_goOnTimes_8 rfl ?_
            refine k_icmp_ge (tgt := 31) (pc' := 14) dX8_goOnTimes_11 rfl (fun zz_ => absurd zz_ (nI_ge (by omega) (by omega))) (fun _ => ?_)
            refine k_aload_n (pc' := 15) dX8_goOnTimes_14 rfl ?_
            refine p_get (pc' := 18) clX8 (Nat.le_of_ble_eq_true rfl) fl_RX8_18 dX8_goOnTimes_15 (by first | assumption | decide | omega) pW48 rfl ?_
            refine k_if_eq (tgt := 31) (pc' := 21) dX8_goOnTimes_18 rfl (fun _ => ?_) (fun zz_ => absurd rfl zz_)
            refine p_return dX8_goOnTimes_31 rfl ?_
            exact ⟨rfl, rfl⟩
      | some w2 =>
        rw [ho] at hr
        dsimp only [goS]
        refine k_iinc (pc' := 28) (v := nI (k + 1)) dX8_goOnTimes_25 rfl (nI_inc _) (Nat.le_of_ble_eq_true rfl) rfl ?_
        refine k_goto (tgt := 2) dX8_goOnTimes_28 rfl ?_
        exact ih (k + 1) w2 (by omega) r hr
  exact main (min T 16807) 0 w (by omega) _ rfl
end WALK
