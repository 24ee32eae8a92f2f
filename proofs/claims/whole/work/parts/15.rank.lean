/-! RankCounter: the object at 65, base 66 with rows 67 .. 81, fresh 82, hasBase 83 -/
abbrev RS : Type := (Nat → Nat → Int64) × (Nat → Int64) × (Nat → Int32) × Nat
def putR (G : GT) (σ : Sto) (C : Nat) (w : RS) : Sto := fun q =>
  if q = 65 then ob 3 [.ref (adr G 66), .ref (adr G 82), .ref (adr G 83), .int (nI C), .int (nI w.2.2.2)]
  else if 67 ≤ q ∧ q < 82 then aJ G 15 (w.1 (q - 67)) else if q = 82 then aJ G 15 w.2.1 else if q = 83 then aZ G 15 w.2.2.1 else σ q
def ccl1 (c : Nat) (bs : Nat → Int64) (here there : Int64) (d : Nat) (f : Nat → Int64) : Nat → Int64 := vp_updL f d (fMod (f d * there - bs d * here) 1000003)
def ccl (C c : Nat) (bs fr : Nat → Int64) : Nat → Int64 := upn (C - c) c (ccl1 c bs (fr c) (bs c)) fr
def frB (C : Nat) (bits : Int32) (fr : Nat → Int64) : Nat → Int64 := upn C 0 (fun c f => vp_updL f c (sepB bits c).toInt64) fr
/-- the columns from c on, n of them -/
def adS (C : Nat) : Nat → Nat → RS → RS
  | 0, _, w => w
  | n + 1, c, w => if w.2.1 c = 0 then adS C n (c + 1) w else if w.2.2.1 c = 0 then (va_up w.1 c (va_cpy w.2.1 (w.1 c) 0 0 C), w.2.1, upd w.2.2.1 c (nI 1), w.2.2.2 + 1) else adS C n (c + 1) (w.1, ccl C c (w.1 c) w.2.1, w.2.2)
def adB (C : Nat) (bits : Int32) (w : RS) : RS := adS C C 0 (w.1, frB C bits w.2.1, w.2.2)
theorem lc0 {x : Int64} : lg_cmp x 0 = 0 ↔ x = 0 := by
  unfold lg_cmp
  by_cases h1 : x > 0
  · rw [if_pos h1]
    constructor
    · intro h; exact absurd h (by decide)
    · intro h; subst h; exact absurd h1 (by decide)
  · rw [if_neg h1]
    by_cases h2 : x = 0
    · rw [if_pos h2]; simp [h2]
    · rw [if_neg h2]
      constructor
      · intro h; exact absurd h (by decide)
      · intro h; exact absurd h h2
section RANK
variable {G : GT} {σ : Sto} {C : Nat} {w : RS}
theorem pR65 : putR G σ C w 65 = ob 3 [.ref (adr G 66), .ref (adr G 82), .ref (adr G 83), .int (nI C), .int (nI w.2.2.2)] := rfl
theorem pR82 : putR G σ C w 82 = aJ G 15 w.2.1 := rfl
theorem pR83 : putR G σ C w 83 = aZ G 15 w.2.2.1 := rfl
theorem pRr {k : Nat} (h : k < 15) : putR G σ C w (67 + k) = aJ G 15 (w.1 k) := by
  unfold putR
  rw [if_neg (by omega), if_pos (by omega), show 67 + k - 67 = k by omega]
theorem pRn {q : Nat} (h : q < 65 ∨ q = 66 ∨ 83 < q) : putR G σ C w q = σ q := by
  unfold putR
  rw [if_neg (by omega), if_neg (by omega), if_neg (by omega), if_neg (by omega)]
theorem pR_fr {b : Nat → Int64} : va_up (putR G σ C w) 82 (aJ G 15 b) = putR G σ C (w.1, b, w.2.2) := by
  funext q
  by_cases h : q = 82
  · subst h; rfl
  · rw [up_n h]; unfold putR; simp only [h, if_false]
theorem pR_ha {b : Nat → Int32} : va_up (putR G σ C w) 83 (aZ G 15 b) = putR G σ C (w.1, w.2.1, b, w.2.2.2) := by
  funext q
  by_cases h : q = 83
  · subst h; rfl
  · rw [up_n h]; unfold putR; simp only [h, if_false]
theorem pR_ba {k : Nat} {r : Nat → Int64} (hk : k < 15) : va_up (putR G σ C w) (67 + k) (aJ G 15 r) = putR G σ C (va_up w.1 k r, w.2) := by
  funext q
  by_cases h : q = 67 + k
  · subst h; rw [up_s, pRr hk]; dsimp only; rw [up_s]
  · rw [up_n h]
    unfold putR
    by_cases h2 : 67 ≤ q ∧ q < 82
    · simp only [h2, and_self, if_true]
      have h3 : q - 67 ≠ k := by omega
      rw [up_n h3]
    · simp only [h2, if_false]
theorem pR_o {C2 r2 : Nat} : va_up (putR G σ C w) 65 (ob 3 [.ref (adr G 66), .ref (adr G 82), .ref (adr G 83), .int (nI C2), .int (nI r2)]) = putR G σ C2 (w.1, w.2.1, w.2.2.1, r2) := by
  funext q
  by_cases h : q = 65
  · subst h; rfl
  · rw [up_n h]; unfold putR; simp only [h, if_false]
theorem c_rkStart {C2 : Nat} : ConP G mX3_start 1 [.ref (adr G 65), .int (nI C2)] (putR G σ C w) (rV (putR G σ C2 (w.1, w.2.1, zf 15 w.2.2.1, 0))) := by
  refine ConP.of rfl (Nat.le_of_ble_eq_true rfl) ?_
  refine k_aload_n (pc' := 1) dX3_start_0 rfl ?_
  refine k_iload_n (pc' := 2) dX3_start_1 rfl ?_
  refine p_putI (pc' := 5) (σ1 := putR G σ C2 w) clX3 (Nat.le_of_ble_eq_true rfl) fl_RX3_24 dX3_start_2 rfl (Or.inl rfl) (by first | assumption | decide | omega) pR65 (Nat.le_of_ble_eq_true rfl) (by exact pR_o) ?_
  refine k_aload_n (pc' := 6) dX3_start_5 rfl ?_
  refine k_iconst (pc' := 7) (v := nI 0) dX3_start_6 rfl ?_
  refine p_putI (pc' := 10) (σ1 := putR G σ C2 (w.1, w.2.1, w.2.2.1, 0)) clX3 (Nat.le_of_ble_eq_true rfl) fl_RX3_28 dX3_start_7 rfl (Or.inl rfl) (by first | assumption | decide | omega) pR65 (Nat.le_of_ble_eq_true rfl) (by exact pR_o) ?_
  refine k_iconst (pc' := 11) (v := nI 0) dX3_start_10 rfl ?_
  refine k_istore_n (pc' := 12) dX3_start_11 (Nat.le_of_ble_eq_true rfl) rfl ?_
  refine loopU (fun p f => OkP G mX3_start 1 (rV (putR G σ C2 (w.1, w.2.1, zf 15 w.2.2.1, 0))) 12 [some (.ref (adr G 65)), some (.int (nI C2)), some (.int (nI p))] [] (putR G σ C2 (w.1, w.2.1, f, 0))) (fun p f => upd f p (nI 0)) 15 0 15 w.2.2.1 (by omega) ?_ ?_
  · intro p f _ hp ih
    refine k_iload_n (pc' := 13) dX3_start_12 rfl ?_
    refine k_bipush (pc' := 15) (v := nI 15) dX3_start_13 rfl ?_
    refine k_icmp_ge (tgt := 31) (pc' := 18) dX3_start_15 rfl (fun zz_ => absurd zz_ (nI_ge (by omega) (by omega))) (fun _ => ?_)
    refine k_aload_n (pc' := 19) dX3_start_18 rfl ?_
    refine p_get (pc' := 22) clX3 (Nat.le_of_ble_eq_true rfl) fl_RX3_20 dX3_start_19 (by first | assumption | decide | omega) pR65 rfl ?_
    refine k_iload_n (pc' := 23) dX3_start_22 rfl ?_
    refine k_iconst (pc' := 24) (v := nI 0) dX3_start_23 rfl ?_
    refine p_zastN (pc' := 25) (σ1 := putR G σ C2 (w.1, w.2.1, upd f p (nI 0), 0)) dX3_start_24 (Or.inl rfl) (by first | assumption | decide | omega) pR83 (by first | decide | omega) (by omega) (by exact pR_ha) ?_
    refine k_iinc (pc' := 28) (v := nI (p + 1)) dX3_start_25 rfl (nI_inc _) (Nat.le_of_ble_eq_true rfl) rfl ?_
    refine k_goto (tgt := 12) dX3_start_28 rfl ?_
    exact ih
  · refine k_iload_n (pc' := 13) dX3_start_12 rfl ?_
    refine k_bipush (pc' := 15) (v := nI 15) dX3_start_13 rfl ?_
    refine k_icmp_ge (tgt := 31) (pc' := 18) dX3_start_15 rfl (fun _ => ?_) (fun zz_ => absurd (nI_le (by omega) (by omega)) zz_)
    refine p_return dX3_start_31 rfl ?_
    exact ⟨rfl, rfl⟩
theorem c_clearColumn (h66 : σ 66 = aR G 6 15 (fun k => 67 + k)) (hC : C ≤ 15) {c : Nat} (hc : c < C) : ConP G mX3_clearColumn 2 [.ref (adr G 65), .int (nI c)] (putR G σ C w) (rV (putR G σ C (w.1, ccl C c (w.1 c) w.2.1, w.2.2))) := by
  refine ConP.of rfl (Nat.le_of_ble_eq_true rfl) ?_
  refine k_aload_n (pc' := 1) dX3_clearColumn_0 rfl ?_
  refine p_get (pc' := 4) clX3 (Nat.le_of_ble_eq_true rfl) fl_RX3_16 dX3_clearColumn_1 (by first | assumption | decide | omega) pR65 rfl ?_
  refine k_iload_n (pc' := 5) dX3_clearColumn_4 rfl ?_
  refine p_laldN (pc' := 6) dX3_clearColumn_5 (by first | assumption | decide | omega) pR82 (by first | decide | omega) (by omega) ?_
  refine k_lstore_n (pc' := 7) dX3_clearColumn_6 (Nat.le_of_ble_eq_true rfl) rfl ?_
  refine k_aload_n (pc' := 8) dX3_clearColumn_7 rfl ?_
  refine p_get (pc' := 11) clX3 (Nat.le_of_ble_eq_true rfl) fl_RX3_11 dX3_clearColumn_8 (by first | assumption | decide | omega) pR65 rfl ?_
  refine k_iload_n (pc' := 12) dX3_clearColumn_11 rfl ?_
  refine p_aaldN (pc' := 13) (t0 := 6) dX3_clearColumn_12 rfl rfl (by first | assumption | decide | omega) ((pRn (by omega)).trans h66) (by decide) (by omega) ?_
  refine k_iload_n (pc' := 14) dX3_clearColumn_13 rfl ?_
  refine p_laldN (pc' := 15) dX3_clearColumn_14 (by show 67 + c < 104; omega) (pRr (by omega)) (by first | decide | omega) (by omega) ?_
  refine k_lstore (pc' := 17) dX3_clearColumn_15 (Nat.le_of_ble_eq_true rfl) rfl ?_
  refine k_iload_n (pc' := 18) dX3_clearColumn_17 rfl ?_
  refine k_istore (pc' := 20) dX3_clearColumn_18 (Nat.le_of_ble_eq_true rfl) rfl ?_
  refine loopU (fun d f => OkP G mX3_clearColumn 2 (rV (putR G σ C (w.1, ccl C c (w.1 c) w.2.1, w.2.2))) 20 [some (.ref (adr G 65)), some (.int (nI c)), some (.long (w.2.1 c)), none, some (.long (w.1 c c)), none, some (.int (nI d))] [] (putR G σ C (w.1, f, w.2.2))) (ccl1 c (w.1 c) (w.2.1 c) (w.1 c c)) C c (C - c) w.2.1 (by omega) ?_ ?_
  · intro d f hcd hd ih
    refine k_iload (pc' := 22) dX3_clearColumn_20 rfl ?_
    refine k_aload_n (pc' := 23) dX3_clearColumn_22 rfl ?_
    refine p_get (pc' := 26) clX3 (Nat.le_of_ble_eq_true rfl) fl_RX3_24 dX3_clearColumn_23 (by first | assumption | decide | omega) pR65 rfl ?_
    refine k_icmp_ge (tgt := 70) (pc' := 29) dX3_clearColumn_26 rfl (fun zz_ => absurd zz_ (nI_ge (by omega) (by omega))) (fun _ => ?_)
    refine k_aload_n (pc' := 30) dX3_clearColumn_29 rfl ?_
    refine p_get (pc' := 33) clX3 (Nat.le_of_ble_eq_true rfl) fl_RX3_16 dX3_clearColumn_30 (by first | assumption | decide | omega) pR65 rfl ?_
    refine k_iload (pc' := 35) dX3_clearColumn_33 rfl ?_
    refine k_aload_n (pc' := 36) dX3_clearColumn_35 rfl ?_
    refine p_get (pc' := 39) clX3 (Nat.le_of_ble_eq_true rfl) fl_RX3_16 dX3_clearColumn_36 (by first | assumption | decide | omega) pR65 rfl ?_
    refine k_iload (pc' := 41) dX3_clearColumn_39 rfl ?_
    refine p_laldN (pc' := 42) dX3_clearColumn_41 (by first | assumption | decide | omega) pR82 (by first | decide | omega) (by omega) ?_
    refine k_lload (pc' := 44) dX3_clearColumn_42 rfl ?_
    refine k_lmul (pc' := 45) dX3_clearColumn_44 rfl ?_
    refine k_aload_n (pc' := 46) dX3_clearColumn_45 rfl ?_
    refine p_get (pc' := 49) clX3 (Nat.le_of_ble_eq_true rfl) fl_RX3_11 dX3_clearColumn_46 (by first | assumption | decide | omega) pR65 rfl ?_
    refine k_iload_n (pc' := 50) dX3_clearColumn_49 rfl ?_
    refine p_aaldN (pc' := 51) (t0 := 6) dX3_clearColumn_50 rfl rfl (by first | assumption | decide | omega) ((pRn (by omega)).trans h66) (by decide) (by omega) ?_
    refine k_iload (pc' := 53) dX3_clearColumn_51 rfl ?_
    refine p_laldN (pc' := 54) dX3_clearColumn_53 (by show 67 + c < 104; omega) (pRr (by omega)) (by first | decide | omega) (by omega) ?_
    refine k_lload_n (pc' := 55) dX3_clearColumn_54 rfl ?_
    refine k_lmul (pc' := 56) dX3_clearColumn_55 rfl ?_
    refine k_lsub (pc' := 57) dX3_clearColumn_56 rfl ?_
    refine k_ldc2 (pc' := 60)  dX3_clearColumn_57 cl_RX3_41 ?_
    refine p_sL (ν := mJ9_floorMod_f86c9) (pc' := 63) dX3_clearColumn_60 ml_RX3_43 mo_J9_floorMod_f86c9 ms_J9_floorMod_f86c9 (Nat.le_of_ble_eq_true rfl) rfl rfl (Nat.le_of_ble_eq_true rfl) (by decide) (c_floorMod (by decide)) ?_
    refine p_lastN (pc' := 64) (σ1 := putR G σ C (w.1, ccl1 c (w.1 c) (w.2.1 c) (w.1 c c) d f, w.2.2)) dX3_clearColumn_63 (by first | assumption | decide | omega) pR82 (by first | decide | omega) (by omega) (by exact pR_fr) ?_
    refine k_iinc (pc' := 67) (v := nI (d + 1)) dX3_clearColumn_64 rfl (nI_inc _) (Nat.le_of_ble_eq_true rfl) rfl ?_
    refine k_goto (tgt := 20) dX3_clearColumn_67 rfl ?_
    exact ih
  · refine k_iload (pc' := 22) dX3_clearColumn_20 rfl ?_
    refine k_aload_n (pc' := 23) dX3_clearColumn_22 rfl ?_
    refine p_get (pc' := 26) clX3 (Nat.le_of_ble_eq_true rfl) fl_RX3_24 dX3_clearColumn_23 (by first | assumption | decide | omega) pR65 rfl ?_
    refine k_icmp_ge (tgt := 70) (pc' := 29) dX3_clearColumn_26 rfl (fun _ => ?_) (fun zz_ => absurd (nI_le (by omega) (by omega)) zz_)
    refine p_return dX3_clearColumn_70 rfl ?_
    exact ⟨rfl, rfl⟩
theorem c_addBits (h66 : σ 66 = aR G 6 15 (fun k => 67 + k)) (hC : C ≤ 15) (hr : w.2.2.2 < 100) {bits : Int32} : ConP G mX3_addBits 3 [.ref (adr G 65), .int bits] (putR G σ C w) (rV (putR G σ C (adB C bits w))) := by
  have c1 : (nI C).toNatClampNeg = C := nI_clamp (by omega)
  refine ConP.of rfl (Nat.le_of_ble_eq_true rfl) ?_
  refine k_iconst (pc' := 1) (v := nI 0) dX3_addBits_0 rfl ?_
  refine k_istore_n (pc' := 2) dX3_addBits_1 (Nat.le_of_ble_eq_true rfl) rfl ?_
  refine loopU (fun c f => OkP G mX3_addBits 3 (rV (putR G σ C (adB C bits w))) 2 [some (.ref (adr G 65)), some (.int bits), some (.int (nI c))] [] (putR G σ C (w.1, f, w.2.2))) (fun c f => vp_updL f c (sepB bits c).toInt64) C 0 C w.2.1 (by omega) ?_ ?_
  · intro c f _ hc ih
    refine k_iload_n (pc' := 3) dX3_addBits_2 rfl ?_
    refine k_aload_n (pc' := 4) dX3_addBits_3 rfl ?_
    refine p_get (pc' := 7) clX3 (Nat.le_of_ble_eq_true rfl) fl_RX3_24 dX3_addBits_4 (by first | assumption | decide | omega) pR65 rfl ?_
    refine k_icmp_ge (tgt := 28) (pc' := 10) dX3_addBits_7 rfl (fun zz_ => absurd zz_ (nI_ge (by omega) (by omega))) (fun _ => ?_)
    refine k_aload_n (pc' := 11) dX3_addBits_10 rfl ?_
    refine p_get (pc' := 14) clX3 (Nat.le_of_ble_eq_true rfl) fl_RX3_16 dX3_addBits_11 (by first | assumption | decide | omega) pR65 rfl ?_
    refine k_iload_n (pc' := 15) dX3_addBits_14 rfl ?_
    refine k_iload_n (pc' := 16) dX3_addBits_15 rfl ?_
    refine k_iload_n (pc' := 17) dX3_addBits_16 rfl ?_
    refine k_ishr (pc' := 18) dX3_addBits_17 rfl ?_
    refine k_iconst (pc' := 19) (v := nI 1) dX3_addBits_18 rfl ?_
    refine k_iand (pc' := 20) dX3_addBits_19 rfl ?_
    refine k_i2l (pc' := 21) dX3_addBits_20 rfl ?_
    refine p_lastN (pc' := 22) (σ1 := putR G σ C (w.1, vp_updL f c (sepB bits c).toInt64, w.2.2)) dX3_addBits_21 (by first | assumption | decide | omega) pR82 (by first | decide | omega) (by omega) (by exact pR_fr) ?_
    refine k_iinc (pc' := 25) (v := nI (c + 1)) dX3_addBits_22 rfl (nI_inc _) (Nat.le_of_ble_eq_true rfl) rfl ?_
    refine k_goto (tgt := 2) dX3_addBits_25 rfl ?_
    exact ih
  refine k_iload_n (pc' := 3) dX3_addBits_2 rfl ?_
  refine k_aload_n (pc' := 4) dX3_addBits_3 rfl ?_
  refine p_get (pc' := 7) clX3 (Nat.le_of_ble_eq_true rfl) fl_RX3_24 dX3_addBits_4 (by first | assumption | decide | omega) pR65 rfl ?_
  refine k_icmp_ge (tgt := 28) (pc' := 10) dX3_addBits_7 rfl (fun _ => ?_) (fun zz_ => absurd (nI_le (by omega) (by omega)) zz_)
  refine k_iconst (pc' := 29) (v := nI 0) dX3_addBits_28 rfl ?_
  refine k_istore_n (pc' := 30) dX3_addBits_29 (Nat.le_of_ble_eq_true rfl) rfl ?_
  have main : ∀ n c w', c + n = C → w'.2.2.2 < 100 → ∀ r, adS C n c w' = r → OkP G mX3_addBits 3 (rV (putR G σ C r)) 30 [some (.ref (adr G 65)), some (.int bits), some (.int (nI c))] [] (putR G σ C w') := by
    intro n
    induction n with
    | zero =>
      intro c w' hn _ r hr
      subst hr
      refine k_iload_n (pc' := 31) dX3_addBits_30 rfl ?_
      refine k_aload_n (pc' := 32) dX3_addBits_31 rfl ?_
      refine p_get (pc' := 35) clX3 (Nat.le_of_ble_eq_true rfl) fl_RX3_24 dX3_addBits_32 (by first | assumption | decide | omega) pR65 rfl ?_
      refine k_icmp_ge (tgt := 117) (pc' := 38) dX3_addBits_35 rfl (fun _ => ?_) (fun zz_ => absurd (nI_le (by omega) (by omega)) zz_)
      refine p_return dX3_addBits_117 rfl ?_
      exact ⟨rfl, rfl⟩
    | succ n ih =>
      intro c w' hn hrk r hr
      unfold adS at hr
      by_cases hz : w'.2.1 c = 0
      · rw [if_pos hz] at hr
        refine k_iload_n (pc' := 31) dX3_addBits_30 rfl ?_
        refine k_aload_n (pc' := 32) dX3_addBits_31 rfl ?_
        refine p_get (pc' := 35) clX3 (Nat.le_of_ble_eq_true rfl) fl_RX3_24 dX3_addBits_32 (by first | assumption | decide | omega) pR65 rfl ?_
        refine k_icmp_ge (tgt := 117) (pc' := 38) dX3_addBits_35 rfl (fun zz_ => absurd zz_ (nI_ge (by omega) (by omega))) (fun _ => ?_)
        refine k_aload_n (pc' := 39) dX3_addBits_38 rfl ?_
        refine p_get (pc' := 42) clX3 (Nat.le_of_ble_eq_true rfl) fl_RX3_16 dX3_addBits_39 (by first | assumption | decide | omega) pR65 rfl ?_
        refine k_iload_n (pc' := 43) dX3_addBits_42 rfl ?_
        refine p_laldN (pc' := 44) dX3_addBits_43 (by first | assumption | decide | omega) pR82 (by first | decide | omega) (by omega) ?_
        refine k_lconst (pc' := 45) (v := 0) dX3_addBits_44 rfl ?_
        refine k_lcmp (pc' := 46) dX3_addBits_45 ?_
        refine k_if_eq (tgt := 95) (pc' := 49) dX3_addBits_46 rfl (fun _ => ?_) (fun zz_ => absurd (lc0.mpr hz) zz_)
        refine k_aload_n (pc' := 96) dX3_addBits_95 rfl ?_
        refine p_get (pc' := 99) clX3 (Nat.le_of_ble_eq_true rfl) fl_RX3_16 dX3_addBits_96 (by first | assumption | decide | omega) pR65 rfl ?_
        refine k_iload_n (pc' := 100) dX3_addBits_99 rfl ?_
        refine p_laldN (pc' := 101) dX3_addBits_100 (by first | assumption | decide | omega) pR82 (by first | decide | omega) (by omega) ?_
        refine k_lconst (pc' := 102) (v := 0) dX3_addBits_101 rfl ?_
        refine k_lcmp (pc' := 103) dX3_addBits_102 ?_
        refine k_if_eq (tgt := 111) (pc' := 106) dX3_addBits_103 rfl (fun _ => ?_) (fun zz_ => absurd (lc0.mpr hz) zz_)
        refine k_iinc (pc' := 114) (v := nI (c + 1)) dX3_addBits_111 rfl (nI_inc _) (Nat.le_of_ble_eq_true rfl) rfl ?_
        refine k_goto (tgt := 30) dX3_addBits_114 rfl ?_
        exact ih (c + 1) w' (by omega) hrk r hr
      · rw [if_neg hz] at hr
        by_cases hh : w'.2.2.1 c = 0
        · rw [if_pos hh] at hr
          subst hr
          refine k_iload_n (pc' := 31) dX3_addBits_30 rfl ?_
          refine k_aload_n (pc' := 32) dX3_addBits_31 rfl ?_
          refine p_get (pc' := 35) clX3 (Nat.le_of_ble_eq_true rfl) fl_RX3_24 dX3_addBits_32 (by first | assumption | decide | omega) pR65 rfl ?_
          refine k_icmp_ge (tgt := 117) (pc' := 38) dX3_addBits_35 rfl (fun zz_ => absurd zz_ (nI_ge (by omega) (by omega))) (fun _ => ?_)
          refine k_aload_n (pc' := 39) dX3_addBits_38 rfl ?_
          refine p_get (pc' := 42) clX3 (Nat.le_of_ble_eq_true rfl) fl_RX3_16 dX3_addBits_39 (by first | assumption | decide | omega) pR65 rfl ?_
          refine k_iload_n (pc' := 43) dX3_addBits_42 rfl ?_
          refine p_laldN (pc' := 44) dX3_addBits_43 (by first | assumption | decide | omega) pR82 (by first | decide | omega) (by omega) ?_
          refine k_lconst (pc' := 45) (v := 0) dX3_addBits_44 rfl ?_
          refine k_lcmp (pc' := 46) dX3_addBits_45 ?_
          refine k_if_eq (tgt := 95) (pc' := 49) dX3_addBits_46 rfl (fun zz_ => absurd zz_ (fun z => hz (lc0.mp z))) (fun _ => ?_)
          refine k_aload_n (pc' := 50) dX3_addBits_49 rfl ?_
          refine p_get (pc' := 53) clX3 (Nat.le_of_ble_eq_true rfl) fl_RX3_20 dX3_addBits_50 (by first | assumption | decide | omega) pR65 rfl ?_
          refine k_iload_n (pc' := 54) dX3_addBits_53 rfl ?_
          refine p_zaldN (pc' := 55) dX3_addBits_54 (by first | assumption | decide | omega) pR83 (by first | decide | omega) (by omega) ?_
          refine k_if_ne (tgt := 95) (pc' := 58) dX3_addBits_55 rfl (fun zz_ => absurd hh zz_) (fun _ => ?_)
          refine k_aload_n (pc' := 59) dX3_addBits_58 rfl ?_
          refine p_get (pc' := 62) clX3 (Nat.le_of_ble_eq_true rfl) fl_RX3_16 dX3_addBits_59 (by first | assumption | decide | omega) pR65 rfl ?_
          refine k_iconst (pc' := 63) (v := nI 0) dX3_addBits_62 rfl ?_
          refine k_aload_n (pc' := 64) dX3_addBits_63 rfl ?_
          refine p_get (pc' := 67) clX3 (Nat.le_of_ble_eq_true rfl) fl_RX3_11 dX3_addBits_64 (by first | assumption | decide | omega) pR65 rfl ?_
          refine k_iload_n (pc' := 68) dX3_addBits_67 rfl ?_
          refine p_aaldN (pc' := 69) (t0 := 6) dX3_addBits_68 rfl rfl (by first | assumption | decide | omega) ((pRn (by omega)).trans h66) (by decide) (by omega) ?_
          refine k_iconst (pc' := 70) (v := nI 0) dX3_addBits_69 rfl ?_
          refine k_aload_n (pc' := 71) dX3_addBits_70 rfl ?_
          refine p_get (pc' := 74) clX3 (Nat.le_of_ble_eq_true rfl) fl_RX3_24 dX3_addBits_71 (by first | assumption | decide | omega) pR65 rfl ?_
          refine p_copyl (pc' := 77) dX3_addBits_74 ml_RX3_31 (by decide) (Nat.le_of_ble_eq_true rfl) (by decide) pR82 (by show 67 + c < 104; omega) (pRr (by omega)) (by decide) (by decide) (nI_pos (by omega)) (by rw [c1, show (nI 0).toNatClampNeg = 0 from rfl]; omega) (by rw [c1, show (nI 0).toNatClampNeg = 0 from rfl]; omega) ?_
          rw [c1, show (nI 0).toNatClampNeg = 0 from rfl, pR_ba (by omega)]
          refine k_aload_n (pc' := 78) dX3_addBits_77 rfl ?_
          refine p_get (pc' := 81) clX3 (Nat.le_of_ble_eq_true rfl) fl_RX3_20 dX3_addBits_78 (by first | assumption | decide | omega) pR65 rfl ?_
          refine k_iload_n (pc' := 82) dX3_addBits_81 rfl ?_
          refine k_iconst (pc' := 83) (v := nI 1) dX3_addBits_82 rfl ?_
          refine p_zastN (pc' := 84) (σ1 := putR G σ C (va_up w'.1 c (va_cpy w'.2.1 (w'.1 c) 0 0 C), w'.2.1, upd w'.2.2.1 c (nI 1), w'.2.2.2)) dX3_addBits_83 (Or.inr rfl) (by first | assumption | decide | omega) pR83 (by first | decide | omega) (by omega) (by exact pR_ha) ?_
          refine k_aload_n (pc' := 85) dX3_addBits_84 rfl ?_
          refine k_dup (pc' := 86) dX3_addBits_85 rfl ?_
          refine p_get (pc' := 89) clX3 (Nat.le_of_ble_eq_true rfl) fl_RX3_28 dX3_addBits_86 (by first | assumption | decide | omega) pR65 rfl ?_
          refine k_iconst (pc' := 90) (v := nI 1) dX3_addBits_89 rfl ?_
          refine k_iadd (pc' := 91) (v := nI (w'.2.2.2 + 1)) dX3_addBits_90 (nI_add _ _) ?_
          refine p_putI (pc' := 94) (σ1 := putR G σ C (va_up w'.1 c (va_cpy w'.2.1 (w'.1 c) 0 0 C), w'.2.1, upd w'.2.2.1 c (nI 1), w'.2.2.2 + 1)) clX3 (Nat.le_of_ble_eq_true rfl) fl_RX3_28 dX3_addBits_91 rfl (Or.inl rfl) (by first | assumption | decide | omega) pR65 (Nat.le_of_ble_eq_true rfl) (by exact pR_o) ?_
          refine p_return dX3_addBits_94 rfl ?_
          exact ⟨rfl, rfl⟩
        · rw [if_neg hh] at hr
          refine k_iload_n (pc' := 31) dX3_addBits_30 rfl ?_
          refine k_aload_n (pc' := 32) dX3_addBits_31 rfl ?_
          refine p_get (pc' := 35) clX3 (Nat.le_of_ble_eq_true rfl) fl_RX3_24 dX3_addBits_32 (by first | assumption | decide | omega) pR65 rfl ?_
          refine k_icmp_ge (tgt := 117) (pc' := 38) dX3_addBits_35 rfl (fun zz_ => absurd zz_ (nI_ge (by omega) (by omega))) (fun _ => ?_)
          refine k_aload_n (pc' := 39) dX3_addBits_38 rfl ?_
          refine p_get (pc' := 42) clX3 (Nat.le_of_ble_eq_true rfl) fl_RX3_16 dX3_addBits_39 (by first | assumption | decide | omega) pR65 rfl ?_
          refine k_iload_n (pc' := 43) dX3_addBits_42 rfl ?_
          refine p_laldN (pc' := 44) dX3_addBits_43 (by first | assumption | decide | omega) pR82 (by first | decide | omega) (by omega) ?_
          refine k_lconst (pc' := 45) (v := 0) dX3_addBits_44 rfl ?_
          refine k_lcmp (pc' := 46) dX3_addBits_45 ?_
          refine k_if_eq (tgt := 95) (pc' := 49) dX3_addBits_46 rfl (fun zz_ => absurd zz_ (fun z => hz (lc0.mp z))) (fun _ => ?_)
          refine k_aload_n (pc' := 50) dX3_addBits_49 rfl ?_
          refine p_get (pc' := 53) clX3 (Nat.le_of_ble_eq_true rfl) fl_RX3_20 dX3_addBits_50 (by first | assumption | decide | omega) pR65 rfl ?_
          refine k_iload_n (pc' := 54) dX3_addBits_53 rfl ?_
          refine p_zaldN (pc' := 55) dX3_addBits_54 (by first | assumption | decide | omega) pR83 (by first | decide | omega) (by omega) ?_
          refine k_if_ne (tgt := 95) (pc' := 58) dX3_addBits_55 rfl (fun _ => ?_) (fun zz_ => absurd zz_ hh)
          refine k_aload_n (pc' := 96) dX3_addBits_95 rfl ?_
          refine p_get (pc' := 99) clX3 (Nat.le_of_ble_eq_true rfl) fl_RX3_16 dX3_addBits_96 (by first | assumption | decide | omega) pR65 rfl ?_
          refine k_iload_n (pc' := 100) dX3_addBits_99 rfl ?_
          refine p_laldN (pc' := 101) dX3_addBits_100 (by first | assumption | decide | omega) pR82 (by first | decide | omega) (by omega) ?_
          refine k_lconst (pc' := 102) (v := 0) dX3_addBits_101 rfl ?_
          refine k_lcmp (pc' := 103) dX3_addBits_102 ?_
          refine k_if_eq (tgt := 111) (pc' := 106) dX3_addBits_103 rfl (fun zz_ => absurd zz_ (fun z => hz (lc0.mp z))) (fun _ => ?_)
          refine k_aload_n (pc' := 107) dX3_addBits_106 rfl ?_
          refine k_iload_n (pc' := 108) dX3_addBits_107 rfl ?_
          refine p_vV (ν := mX3_clearColumn) (pc' := 111) dX3_addBits_108 ml_RX3_37 mo_X3_clearColumn mv_X3_clearColumn clX3 (Nat.le_of_ble_eq_true rfl) rfl rfl (Nat.le_of_ble_eq_true rfl) (by first | assumption | decide | omega) pR65 (by decide) (c_clearColumn h66 hC (by omega)) ?_
          refine k_iinc (pc' := 114) (v := nI (c + 1)) dX3_addBits_111 rfl (nI_inc _) (Nat.le_of_ble_eq_true rfl) rfl ?_
          refine k_goto (tgt := 30) dX3_addBits_114 rfl ?_
          exact ih (c + 1) (w'.1, ccl C c (w'.1 c) w'.2.1, w'.2.2) (by omega) hrk r hr
  exact main C 0 (w.1, frB C bits w.2.1, w.2.2) (by omega) hr _ rfl
end RANK
