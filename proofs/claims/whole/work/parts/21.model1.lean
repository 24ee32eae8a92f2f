def mAll1 (f : Nat → Int32) (i j : Nat) (s : Int32) : Int32 := s + f (6 * i + j)
def mAll2 (N : Nat) (f : Nat → Int32) (i : Nat) (s : Int32) : Int32 := upn (N - (i + 1)) (i + 1) (mAll1 f i) s
def mAll (N : Nat) (f : Nat → Int32) : Int32 := upn N 0 (mAll2 N f) (nI 0)
def mIs (i j : Nat) (v : Int32) (f : Nat → Int32) : Nat → Int32 := upd (upd f (6 * i + j) v) (6 * j + i) v
/-- n numbers of f, then g's -/
def cpA (n : Nat) (f g : Nat → Int32) : Nat → Int32 := upn n 0 (fun k h => upd h k (f k)) g
/-- a point in a cut -/
abbrev hasP (x : Int32) (p : Nat) : Prop := 0 < p ∧ x >>> (nI (p - 1) &&& 31) &&& nI 1 = nI 1
abbrev sepP (x : Int32) (i j : Nat) : Prop := ¬ (bI (hasP x i) = bI (hasP x j))
section MODEL1
variable {G : GT} {σ : Sto} {N D T : Nat} {z : Nat → Int32} {a : Nat → Nat → Int32} {tb : Nat → Int64}
theorem lcLt {x y : Int64} : lg_cmp x y < 0 ↔ x.toInt < y.toInt := by
  unfold lg_cmp
  have e : (x > y) ↔ y.toInt < x.toInt := Int64.lt_iff_toInt_lt
  by_cases h1 : x > y
  · rw [if_pos h1]
    have := e.mp h1
    constructor
    · intro h; exact absurd h (by decide)
    · intro h; omega
  · rw [if_neg h1]
    have h1' : ¬ y.toInt < x.toInt := fun q => h1 (e.mpr q)
    by_cases h2 : x = y
    · rw [if_pos h2]
      subst h2
      constructor
      · intro h; exact absurd h (by decide)
      · intro h; omega
    · rw [if_neg h2]
      have h3 : x.toInt ≠ y.toInt := fun q => h2 (Int64.toInt_inj.mp q)
      constructor
      · intro _; omega
      · intro _; decide
theorem lcGt {x y : Int64} : 0 < lg_cmp x y ↔ y.toInt < x.toInt := by
  unfold lg_cmp
  have e : (x > y) ↔ y.toInt < x.toInt := Int64.lt_iff_toInt_lt
  by_cases h1 : x > y
  · rw [if_pos h1]
    have := e.mp h1
    constructor
    · intro _; exact this
    · intro _; decide
  · rw [if_neg h1]
    have h1' : ¬ y.toInt < x.toInt := fun q => h1 (e.mpr q)
    by_cases h2 : x = y
    · rw [if_pos h2]
      constructor
      · intro h; exact absurd h (by decide)
      · intro h; exact absurd h h1'
    · rw [if_neg h2]
      constructor
      · intro h; exact absurd h (by decide)
      · intro h; exact absurd h h1'
theorem i2l_e (x : Int32) : x.toInt64.toInt = x.toInt := Int32.toInt_toInt64 x
theorem c_in {v lo hi : Int64} : ConP G mX10_in 1 [.long v, .long lo, .long hi] σ (rI (bI (lo.toInt ≤ v.toInt ∧ v.toInt ≤ hi.toInt)) σ) := by
  refine ConP.of rfl (Nat.le_of_ble_eq_true rfl) ?_
  refine k_lload_n (pc' := 1) dX10_in_0 rfl ?_
  refine k_lload_n (pc' := 2) dX10_in_1 rfl ?_
  refine k_lcmp (pc' := 3) dX10_in_2 ?_
  refine k_if_lt (tgt := 17) (pc' := 6) dX10_in_3 rfl (fun c_3 => ?_) (fun c_3 => ?_)
  · rw [lcLt] at c_3
    refine k_iconst (pc' := 18) (v := nI 0) dX10_in_17 rfl ?_
    refine p_zreturn dX10_in_18 rfl (by first | exact Or.inl rfl | exact Or.inr rfl) ?_
    exact ⟨by rw [bI_f (by omega)]; rfl, rfl⟩
  rw [lcLt] at c_3
  refine k_lload_n (pc' := 7) dX10_in_6 rfl ?_
  refine k_lload (pc' := 9) dX10_in_7 rfl ?_
  refine k_lcmp (pc' := 10) dX10_in_9 ?_
  refine k_if_gt (tgt := 17) (pc' := 13) dX10_in_10 rfl (fun c_10 => ?_) (fun c_10 => ?_)
  · rw [lcGt] at c_10
    refine k_iconst (pc' := 18) (v := nI 0) dX10_in_17 rfl ?_
    refine p_zreturn dX10_in_18 rfl (by first | exact Or.inl rfl | exact Or.inr rfl) ?_
    exact ⟨by rw [bI_f (by omega)]; rfl, rfl⟩
  rw [lcGt] at c_10
  refine k_iconst (pc' := 14) (v := nI 1) dX10_in_13 rfl ?_
  refine k_goto (tgt := 18) dX10_in_14 rfl ?_
  refine p_zreturn dX10_in_18 rfl (by first | exact Or.inl rfl | exact Or.inr rfl) ?_
  exact ⟨by rw [bI_t (by omega)]; rfl, rfl⟩
theorem bI_congr {p q : Prop} [Decidable p] [Decidable q] (h : p ↔ q) : bI p = bI q := by
  unfold bI
  by_cases hp : p
  · rw [if_pos hp, if_pos (h.mp hp)]
  · rw [if_neg hp, if_neg (fun z => hp (h.mpr z))]
theorem c_isPoint (hN : 2 ≤ N) (hN6 : N ≤ 6) {x : Int32} : ConP G mX10_isPoint 2 [.ref (adr G 84), .int x] (putM G σ N D T z a tb) (rI (bI (0 ≤ x.toInt ∧ x.toInt < N)) (putM G σ N D T z a tb)) := by
  refine ConP.of rfl (Nat.le_of_ble_eq_true rfl) ?_
  refine k_iload_n (pc' := 1) dX10_isPoint_0 rfl ?_
  refine k_i2l (pc' := 2) dX10_isPoint_1 rfl ?_
  refine k_lconst (pc' := 3) (v := 0) dX10_isPoint_2 rfl ?_
  refine k_aload_n (pc' := 4) dX10_isPoint_3 rfl ?_
  refine p_get (pc' := 7) clX10 (Nat.le_of_ble_eq_true rfl) fl_RX10_9 dX10_isPoint_4 (by first | assumption | decide | omega) (by first | rfl | assumption) rfl ?_
  refine k_iconst (pc' := 8) (v := nI 1) dX10_isPoint_7 rfl ?_
  refine k_isub (pc' := 9) dX10_isPoint_8 (by first | exact pk_sub (by omega) | rfl) ?_
  refine k_i2l (pc' := 10) dX10_isPoint_9 rfl ?_
  refine p_sI (ν := mX10_in) (pc' := 13) dX10_isPoint_10 ml_RX10_77 mo_X10_in ms_X10_in (Nat.le_of_ble_eq_true rfl) rfl rfl (Nat.le_of_ble_eq_true rfl) (by decide) (c_in) ?_
  refine p_zreturn dX10_isPoint_13 rfl bI_01 ?_
  refine ⟨?_, rfl⟩
  congr 2
  refine bI_congr ?_
  rw [i2l_e, i2l_e, nI_e (by omega), show (0 : Int64).toInt = 0 from rfl]
  omega
theorem c_isTwo (hN : 2 ≤ N) (hN6 : N ≤ 6) {x y : Int32} : ConP G mX10_isTwo 3 [.ref (adr G 84), .int x, .int y] (putM G σ N D T z a tb) (rI (bI (0 ≤ x.toInt ∧ x.toInt < N ∧ 0 ≤ y.toInt ∧ y.toInt < N ∧ x ≠ y)) (putM G σ N D T z a tb)) := by
  refine ConP.of rfl (Nat.le_of_ble_eq_true rfl) ?_
  refine k_aload_n (pc' := 1) dX10_isTwo_0 rfl ?_
  refine k_iload_n (pc' := 2) dX10_isTwo_1 rfl ?_
  refine p_vI (ν := mX10_isPoint) (pc' := 5) dX10_isTwo_2 ml_RX10_81 mo_X10_isPoint mv_X10_isPoint clX10 (Nat.le_of_ble_eq_true rfl) rfl rfl (Nat.le_of_ble_eq_true rfl) (by first | assumption | decide | omega) (by first | rfl | assumption) (by decide) (c_isPoint hN hN6) ?_
  refine k_if_eq (tgt := 25) (pc' := 8) dX10_isTwo_5 rfl (fun c_5 => ?_) (fun c_5 => ?_)
  · rw [bI_eq] at c_5
    refine k_iconst (pc' := 26) (v := nI 0) dX10_isTwo_25 rfl ?_
    refine p_zreturn dX10_isTwo_26 rfl (by first | exact Or.inl rfl | exact Or.inr rfl) ?_
    exact ⟨by rw [bI_f (by omega)]; rfl, rfl⟩
  rw [bI_ne] at c_5
  refine k_aload_n (pc' := 9) dX10_isTwo_8 rfl ?_
  refine k_iload_n (pc' := 10) dX10_isTwo_9 rfl ?_
  refine p_vI (ν := mX10_isPoint) (pc' := 13) dX10_isTwo_10 ml_RX10_81 mo_X10_isPoint mv_X10_isPoint clX10 (Nat.le_of_ble_eq_true rfl) rfl rfl (Nat.le_of_ble_eq_true rfl) (by first | assumption | decide | omega) (by first | rfl | assumption) (by decide) (c_isPoint hN hN6) ?_
  refine k_if_eq (tgt := 25) (pc' := 16) dX10_isTwo_13 rfl (fun c_13 => ?_) (fun c_13 => ?_)
  · rw [bI_eq] at c_13
    refine k_iconst (pc' := 26) (v := nI 0) dX10_isTwo_25 rfl ?_
    refine p_zreturn dX10_isTwo_26 rfl (by first | exact Or.inl rfl | exact Or.inr rfl) ?_
    exact ⟨by rw [bI_f (by omega)]; rfl, rfl⟩
  rw [bI_ne] at c_13
  refine k_iload_n (pc' := 17) dX10_isTwo_16 rfl ?_
  refine k_iload_n (pc' := 18) dX10_isTwo_17 rfl ?_
  refine k_icmp_eq (tgt := 25) (pc' := 21) dX10_isTwo_18 rfl (fun c_18 => ?_) (fun c_18 => ?_)
  · refine k_iconst (pc' := 26) (v := nI 0) dX10_isTwo_25 rfl ?_
    refine p_zreturn dX10_isTwo_26 rfl (by first | exact Or.inl rfl | exact Or.inr rfl) ?_
    exact ⟨by rw [bI_f (fun q => q.2.2.2.2 c_18)]; rfl, rfl⟩
  refine k_iconst (pc' := 22) (v := nI 1) dX10_isTwo_21 rfl ?_
  refine k_goto (tgt := 26) dX10_isTwo_22 rfl ?_
  refine p_zreturn dX10_isTwo_26 rfl (by first | exact Or.inl rfl | exact Or.inr rfl) ?_
  exact ⟨by rw [bI_t ⟨c_5.1, c_5.2, c_13.1, c_13.2, c_18⟩]; rfl, rfl⟩
theorem c_cuts (hN : 2 ≤ N) (hN6 : N ≤ 6) : ConP G mX10_cuts 1 [.ref (adr G 84)] (putM G σ N D T z a tb) (rI (nI (lC N)) (putM G σ N D T z a tb)) := by
  have hl := lC_ge N (by omega) hN
  refine ConP.of rfl (Nat.le_of_ble_eq_true rfl) ?_
  refine k_iconst (pc' := 1) (v := nI 1) dX10_cuts_0 rfl ?_
  refine k_aload_n (pc' := 2) dX10_cuts_1 rfl ?_
  refine p_get (pc' := 5) clX10 (Nat.le_of_ble_eq_true rfl) fl_RX10_9 dX10_cuts_2 (by first | assumption | decide | omega) (by first | rfl | assumption) rfl ?_
  refine k_iconst (pc' := 6) (v := nI 1) dX10_cuts_5 rfl ?_
  refine k_isub (pc' := 7) dX10_cuts_6 (by first | exact pk_sub (by omega) | rfl) ?_
  refine k_ishl (pc' := 8) (v := nI (2 ^ (N - 1))) dX10_cuts_7 (lC_sh N (by omega) hN) ?_
  refine k_iconst (pc' := 9) (v := nI 1) dX10_cuts_8 rfl ?_
  refine k_isub (pc' := 10) (v := nI (lC N)) dX10_cuts_9 (pk_sub (by omega)) ?_
  refine p_ireturn dX10_cuts_10 rfl ?_
  exact ⟨rfl, rfl⟩
theorem c_isCut (hN : 2 ≤ N) (hN6 : N ≤ 6) {x : Int32} : ConP G mX10_isCut 2 [.ref (adr G 84), .int x] (putM G σ N D T z a tb) (rI (bI (1 ≤ x.toInt ∧ x.toInt ≤ lC N)) (putM G σ N D T z a tb)) := by
  have hl := lC_le hN hN6
  refine ConP.of rfl (Nat.le_of_ble_eq_true rfl) ?_
  refine k_iload_n (pc' := 1) dX10_isCut_0 rfl ?_
  refine k_i2l (pc' := 2) dX10_isCut_1 rfl ?_
  refine k_lconst (pc' := 3) (v := 1) dX10_isCut_2 rfl ?_
  refine k_aload_n (pc' := 4) dX10_isCut_3 rfl ?_
  refine p_vI (ν := mX10_cuts) (pc' := 7) dX10_isCut_4 ml_RX10_85 mo_X10_cuts mv_X10_cuts clX10 (Nat.le_of_ble_eq_true rfl) rfl rfl (Nat.le_of_ble_eq_true rfl) (by first | assumption | decide | omega) (by first | rfl | assumption) (by decide) (c_cuts hN hN6) ?_
  refine k_i2l (pc' := 8) dX10_isCut_7 rfl ?_
  refine p_sI (ν := mX10_in) (pc' := 11) dX10_isCut_8 ml_RX10_77 mo_X10_in ms_X10_in (Nat.le_of_ble_eq_true rfl) rfl rfl (Nat.le_of_ble_eq_true rfl) (by decide) (c_in) ?_
  refine p_zreturn dX10_isCut_11 rfl bI_01 ?_
  refine ⟨?_, rfl⟩
  congr 2
  refine bI_congr ?_
  rw [i2l_e, i2l_e, nI_e (by omega), show (1 : Int64).toInt = 1 from rfl]
theorem c_has {x : Int32} {p : Nat} (hp : p < 2 ^ 31) : ConP G mX10_has 1 [.int x, .int (nI p)] σ (rI (bI (hasP x p)) σ) := by
  refine ConP.of rfl (Nat.le_of_ble_eq_true rfl) ?_
  by_cases h0 : p = 0
  · subst h0
    refine k_iload_n (pc' := 1) dX10_has_0 rfl ?_
    refine k_if_le (tgt := 19) (pc' := 4) dX10_has_1 rfl (fun _ => ?_) (fun zz_ => absurd (by decide) zz_)
    refine k_iconst (pc' := 20) (v := nI 0) dX10_has_19 rfl ?_
    refine p_zreturn dX10_has_20 rfl (by first | exact Or.inl rfl | exact Or.inr rfl) ?_
    exact ⟨by rw [bI_f (fun q => absurd q.1 (by decide))]; rfl, rfl⟩
  · refine k_iload_n (pc' := 1) dX10_has_0 rfl ?_
    refine k_if_le (tgt := 19) (pc' := 4) dX10_has_1 rfl (fun zz_ => absurd zz_ (nI_nle (by omega) (by omega))) (fun _ => ?_)
    refine k_iload_n (pc' := 5) dX10_has_4 rfl ?_
    refine k_iload_n (pc' := 6) dX10_has_5 rfl ?_
    refine k_iconst (pc' := 7) (v := nI 1) dX10_has_6 rfl ?_
    refine k_isub (pc' := 8) dX10_has_7 (by first | exact pk_sub (by omega) | rfl) ?_
    refine k_ishr (pc' := 9) dX10_has_8 rfl ?_
    refine k_iconst (pc' := 10) (v := nI 1) dX10_has_9 rfl ?_
    refine k_iand (pc' := 11) dX10_has_10 rfl ?_
    refine k_iconst (pc' := 12) (v := nI 1) dX10_has_11 rfl ?_
    refine k_icmp_ne (tgt := 19) (pc' := 15) dX10_has_12 rfl (fun c_12 => ?_) (fun c_12 => ?_)
    · refine k_iconst (pc' := 20) (v := nI 0) dX10_has_19 rfl ?_
      refine p_zreturn dX10_has_20 rfl (by first | exact Or.inl rfl | exact Or.inr rfl) ?_
      exact ⟨by rw [bI_f (fun q => c_12 q.2)]; rfl, rfl⟩
    · refine k_iconst (pc' := 16) (v := nI 1) dX10_has_15 rfl ?_
      refine k_goto (tgt := 20) dX10_has_16 rfl ?_
      refine p_zreturn dX10_has_20 rfl (by first | exact Or.inl rfl | exact Or.inr rfl) ?_
      exact ⟨by rw [bI_t ⟨by omega, c_12⟩]; rfl, rfl⟩
theorem c_separates {x : Int32} {i j : Nat} (hi : i < 2 ^ 31) (hj : j < 2 ^ 31) : ConP G mX10_separates 2 [.int x, .int (nI i), .int (nI j)] σ (rI (bI (sepP x i j)) σ) := by
  refine ConP.of rfl (Nat.le_of_ble_eq_true rfl) ?_
  refine k_iload_n (pc' := 1) dX10_separates_0 rfl ?_
  refine k_iload_n (pc' := 2) dX10_separates_1 rfl ?_
  refine p_sI (ν := mX10_has) (pc' := 5) dX10_separates_2 ml_RX10_89 mo_X10_has ms_X10_has (Nat.le_of_ble_eq_true rfl) rfl rfl (Nat.le_of_ble_eq_true rfl) (by decide) (c_has hi) ?_
  refine k_iload_n (pc' := 6) dX10_separates_5 rfl ?_
  refine k_iload_n (pc' := 7) dX10_separates_6 rfl ?_
  refine p_sI (ν := mX10_has) (pc' := 10) dX10_separates_7 ml_RX10_89 mo_X10_has ms_X10_has (Nat.le_of_ble_eq_true rfl) rfl rfl (Nat.le_of_ble_eq_true rfl) (by decide) (c_has hj) ?_
  refine k_icmp_eq (tgt := 17) (pc' := 13) dX10_separates_10 rfl (fun c_10 => ?_) (fun c_10 => ?_)
  · refine k_iconst (pc' := 18) (v := nI 0) dX10_separates_17 rfl ?_
    refine p_zreturn dX10_separates_18 rfl (by first | exact Or.inl rfl | exact Or.inr rfl) ?_
    exact ⟨by rw [bI_f (fun q => q c_10)]; rfl, rfl⟩
  · refine k_iconst (pc' := 14) (v := nI 1) dX10_separates_13 rfl ?_
    refine k_goto (tgt := 18) dX10_separates_14 rfl ?_
    refine p_zreturn dX10_separates_18 rfl (by first | exact Or.inl rfl | exact Or.inr rfl) ?_
    exact ⟨by rw [bI_t c_10]; rfl, rfl⟩
theorem c_pairsOf {n : Nat} (hn : n < 1000) : ConP G mX10_pairsOf 1 [.int (nI n)] σ (rI (nI (pN n)) σ) := by
  refine ConP.of rfl (Nat.le_of_ble_eq_true rfl) ?_
  by_cases h0 : n = 0
  · subst h0
    refine k_iload_n (pc' := 1) dX10_pairsOf_0 rfl ?_
    refine k_iload_n (pc' := 2) dX10_pairsOf_1 rfl ?_
    refine k_iconst (pc' := 3) (v := nI 1) dX10_pairsOf_2 rfl ?_
    refine k_isub (pc' := 4) (v := -1) dX10_pairsOf_3 (by decide) ?_
    refine k_imul (pc' := 5) (v := nI 0) dX10_pairsOf_4 (by decide) ?_
    refine k_iconst (pc' := 6) (v := nI 2) dX10_pairsOf_5 rfl ?_
    refine k_idiv (pc' := 7) (v := nI (pN 0)) dX10_pairsOf_6 (by decide) (by decide) ?_
    refine p_ireturn dX10_pairsOf_7 rfl ?_
    exact ⟨rfl, rfl⟩
  · refine k_iload_n (pc' := 1) dX10_pairsOf_0 rfl ?_
    refine k_iload_n (pc' := 2) dX10_pairsOf_1 rfl ?_
    refine k_iconst (pc' := 3) (v := nI 1) dX10_pairsOf_2 rfl ?_
    refine k_isub (pc' := 4) (v := nI (n - 1)) dX10_pairsOf_3 (pk_sub (by omega)) ?_
    refine k_imul (pc' := 5) (v := nI (n * (n - 1))) dX10_pairsOf_4 (pk_mul _ _) ?_
    refine k_iconst (pc' := 6) (v := nI 2) dX10_pairsOf_5 rfl ?_
    refine k_idiv (pc' := 7) (v := nI (pN n)) dX10_pairsOf_6 (by decide) (pk_div (by have : n * (n - 1) ≤ 1000 * 1000 := Nat.mul_le_mul (by omega) (by omega); omega) (by decide) (by decide)) ?_
    refine p_ireturn dX10_pairsOf_7 rfl ?_
    exact ⟨rfl, rfl⟩
theorem c_copies {p q n m : Nat} {f g : Nat → Int32} (hp : p < kW) (hq : q < kW) (hne : p ≠ q) (hf : σ p = aI G n f) (hg : σ q = aI G m g) (hnm : n ≤ m) (hm : m < 2 ^ 31) : ConP G mX10_copies 1 [.ref (adr G p), .ref (adr G q)] σ (rV (va_up σ q (aI G m (cpA n f g)))) := by
  refine ConP.of rfl (Nat.le_of_ble_eq_true rfl) ?_
  refine k_iconst (pc' := 1) (v := nI 0) dX10_copies_0 rfl ?_
  refine k_istore_n (pc' := 2) dX10_copies_1 (Nat.le_of_ble_eq_true rfl) rfl ?_
  rw [← up_id hg]
  refine loopU (fun k h => OkP G mX10_copies 1 (rV (va_up (va_up σ q (aI G m g)) q (aI G m (cpA n f g)))) 2 [some (.ref (adr G p)), some (.ref (adr G q)), some (.int (nI k))] [] (va_up σ q (aI G m h))) (fun k h => upd h k (f k)) n 0 n g (by omega) ?_ ?_
  · intro k h _ hk ih
    refine k_iload_n (pc' := 3) dX10_copies_2 rfl ?_
    refine k_aload_n (pc' := 4) dX10_copies_3 rfl ?_
    refine p_alen (pc' := 5) dX10_copies_4 (by first | assumption | decide | omega) ((up_n hne).trans hf) ?_
    refine k_icmp_ge (tgt := 20) (pc' := 8) dX10_copies_5 rfl (fun zz_ => absurd zz_ (nI_ge (by omega) (by omega))) (fun _ => ?_)
    refine k_aload_n (pc' := 9) dX10_copies_8 rfl ?_
    refine k_iload_n (pc' := 10) dX10_copies_9 rfl ?_
    refine k_aload_n (pc' := 11) dX10_copies_10 rfl ?_
    refine k_iload_n (pc' := 12) dX10_copies_11 rfl ?_
    refine p_ialdN (pc' := 13) dX10_copies_12 (by first | assumption | decide | omega) ((up_n hne).trans hf) (by first | decide | omega) (by first | omega | (simp only [mL85, mL86, mL87, mL88, mL89, mL90, mL91, mL92, mL93, mL94, mL95, mL96, mL97, mL98, mL100, mL101, mL102, mL103]; omega)) ?_
    refine p_iastN (pc' := 14) (σ1 := va_up σ q (aI G m (upd h k (f k)))) dX10_copies_13 (by first | assumption | decide | omega) up_s (by first | decide | omega) (by first | omega | (simp only [mL85, mL86, mL87, mL88, mL89, mL90, mL91, mL92, mL93, mL94, mL95, mL96, mL97, mL98, mL100, mL101, mL102, mL103]; omega)) (by exact up_up) ?_
    refine k_iinc (pc' := 17) (v := nI (k + 1)) dX10_copies_14 rfl (nI_inc _) (Nat.le_of_ble_eq_true rfl) rfl ?_
    refine k_goto (tgt := 2) dX10_copies_17 rfl ?_
    exact ih
  · refine k_iload_n (pc' := 3) dX10_copies_2 rfl ?_
    refine k_aload_n (pc' := 4) dX10_copies_3 rfl ?_
    refine p_alen (pc' := 5) dX10_copies_4 (by first | assumption | decide | omega) ((up_n hne).trans hf) ?_
    refine k_icmp_ge (tgt := 20) (pc' := 8) dX10_copies_5 rfl (fun _ => ?_) (fun zz_ => absurd (nI_le (by omega) (by omega)) zz_)
    refine p_return dX10_copies_20 rfl ?_
    exact ⟨rfl, up_up.symm⟩
theorem c_all (hN : 2 ≤ N) (hN6 : N ≤ 6) : ConP G mX10_all 1 [.ref (adr G 84)] (putM G σ N D T z a tb) (rI (mAll N (a 85)) (putM G σ N D T z a tb)) := by
  refine ConP.of rfl (Nat.le_of_ble_eq_true rfl) ?_
  refine k_iconst (pc' := 1) (v := nI 0) dX10_all_0 rfl ?_
  refine k_istore_n (pc' := 2) dX10_all_1 (Nat.le_of_ble_eq_true rfl) rfl ?_
  refine k_iconst (pc' := 3) (v := nI 0) dX10_all_2 rfl ?_
  refine k_istore_n (pc' := 4) dX10_all_3 (Nat.le_of_ble_eq_true rfl) rfl ?_
  refine loopU (fun i s => ∀ y, OkP G mX10_all 1 (rI (mAll N (a 85)) (putM G σ N D T z a tb)) 4 [some (.ref (adr G 84)), some (.int s), some (.int (nI i)), y] [] (putM G σ N D T z a tb)) (mAll2 N (a 85)) N 0 N (nI 0) (by omega) ?_ ?_ none
  · intro i s _ hi ih y
    refine k_iload_n (pc' := 5) dX10_all_4 rfl ?_
    refine k_aload_n (pc' := 6) dX10_all_5 rfl ?_
    refine p_get (pc' := 9) clX10 (Nat.le_of_ble_eq_true rfl) fl_RX10_9 dX10_all_6 (by first | assumption | decide | omega) (by first | rfl | assumption) rfl ?_
    refine k_icmp_ge (tgt := 50) (pc' := 12) dX10_all_9 rfl (fun zz_ => absurd zz_ (nI_ge (by omega) (by omega))) (fun _ => ?_)
    refine k_iload_n (pc' := 13) dX10_all_12 rfl ?_
    refine k_iconst (pc' := 14) (v := nI 1) dX10_all_13 rfl ?_
    refine k_iadd (pc' := 15) dX10_all_14 (by first | exact nI_add _ _ | rfl) ?_
    refine k_istore_n (pc' := 16) dX10_all_15 (Nat.le_of_ble_eq_true rfl) rfl ?_
    refine loopU (fun j s => OkP G mX10_all 1 (rI (mAll N (a 85)) (putM G σ N D T z a tb)) 16 [some (.ref (adr G 84)), some (.int s), some (.int (nI i)), some (.int (nI j))] [] (putM G σ N D T z a tb)) (mAll1 (a 85) i) N (i + 1) (N - (i + 1)) s (by omega) ?_ ?_
    · intro j s hij hj ih2
      refine k_iload_n (pc' := 17) dX10_all_16 rfl ?_
      refine k_aload_n (pc' := 18) dX10_all_17 rfl ?_
      refine p_get (pc' := 21) clX10 (Nat.le_of_ble_eq_true rfl) fl_RX10_9 dX10_all_18 (by first | assumption | decide | omega) (by first | rfl | assumption) rfl ?_
      refine k_icmp_ge (tgt := 44) (pc' := 24) dX10_all_21 rfl (fun zz_ => absurd zz_ (nI_ge (by omega) (by omega))) (fun _ => ?_)
      refine k_iload_n (pc' := 25) dX10_all_24 rfl ?_
      refine k_aload_n (pc' := 26) dX10_all_25 rfl ?_
      refine p_get (pc' := 29) clX10 (Nat.le_of_ble_eq_true rfl) fl_RX10_15 dX10_all_26 (by first | assumption | decide | omega) (by first | rfl | assumption) rfl ?_
      refine k_bipush (pc' := 31) (v := nI 6) dX10_all_29 rfl ?_
      refine k_iload_n (pc' := 32) dX10_all_31 rfl ?_
      refine k_imul (pc' := 33) dX10_all_32 (by first | exact pk_mul _ _ | rfl) ?_
      refine k_iload_n (pc' := 34) dX10_all_33 rfl ?_
      refine k_iadd (pc' := 35) dX10_all_34 (by first | exact nI_add _ _ | rfl) ?_
      refine p_ialdN (pc' := 36) dX10_all_35 (by first | assumption | decide | omega) (by first | rfl | assumption) (by first | decide | omega) (by first | omega | (simp only [mL85, mL86, mL87, mL88, mL89, mL90, mL91, mL92, mL93, mL94, mL95, mL96, mL97, mL98, mL100, mL101, mL102, mL103]; omega)) ?_
      refine k_iadd (pc' := 37) (v := s + a 85 (6 * i + j)) dX10_all_36 rfl ?_
      refine k_istore_n (pc' := 38) dX10_all_37 (Nat.le_of_ble_eq_true rfl) rfl ?_
      refine k_iinc (pc' := 41) (v := nI (j + 1)) dX10_all_38 rfl (nI_inc _) (Nat.le_of_ble_eq_true rfl) rfl ?_
      refine k_goto (tgt := 16) dX10_all_41 rfl ?_
      exact ih2
    · refine k_iload_n (pc' := 17) dX10_all_16 rfl ?_
      refine k_aload_n (pc' := 18) dX10_all_17 rfl ?_
      refine p_get (pc' := 21) clX10 (Nat.le_of_ble_eq_true rfl) fl_RX10_9 dX10_all_18 (by first | assumption | decide | omega) (by first | rfl | assumption) rfl ?_
      refine k_icmp_ge (tgt := 44) (pc' := 24) dX10_all_21 rfl (fun _ => ?_) (fun zz_ => absurd (nI_le (by omega) (by omega)) zz_)
      refine k_iinc (pc' := 47) (v := nI (i + 1)) dX10_all_44 rfl (nI_inc _) (Nat.le_of_ble_eq_true rfl) rfl ?_
      refine k_goto (tgt := 4) dX10_all_47 rfl ?_
      exact ih _
  · intro y
    refine k_iload_n (pc' := 5) dX10_all_4 rfl ?_
    refine k_aload_n (pc' := 6) dX10_all_5 rfl ?_
    refine p_get (pc' := 9) clX10 (Nat.le_of_ble_eq_true rfl) fl_RX10_9 dX10_all_6 (by first | assumption | decide | omega) (by first | rfl | assumption) rfl ?_
    refine k_icmp_ge (tgt := 50) (pc' := 12) dX10_all_9 rfl (fun _ => ?_) (fun zz_ => absurd (nI_le (by omega) (by omega)) zz_)
    refine k_iload_n (pc' := 51) dX10_all_50 rfl ?_
    refine p_ireturn dX10_all_51 rfl ?_
    exact ⟨rfl, rfl⟩
theorem c_is {i j : Nat} (hi : i < 6) (hj : j < 6) {v : Int32} : ConP G mX10_is 1 [.ref (adr G 84), .int (nI i), .int (nI j), .int v] (putM G σ N D T z a tb) (rV (putM G σ N D T z (va_up a 85 (mIs i j v (a 85))) tb)) := by
  refine ConP.of rfl (Nat.le_of_ble_eq_true rfl) ?_
  refine k_aload_n (pc' := 1) dX10_is_0 rfl ?_
  refine p_get (pc' := 4) clX10 (Nat.le_of_ble_eq_true rfl) fl_RX10_15 dX10_is_1 (by first | assumption | decide | omega) (by first | rfl | assumption) rfl ?_
  refine k_bipush (pc' := 6) (v := nI 6) dX10_is_4 rfl ?_
  refine k_iload_n (pc' := 7) dX10_is_6 rfl ?_
  refine k_imul (pc' := 8) dX10_is_7 (by first | exact pk_mul _ _ | rfl) ?_
  refine k_iload_n (pc' := 9) dX10_is_8 rfl ?_
  refine k_iadd (pc' := 10) dX10_is_9 (by first | exact nI_add _ _ | rfl) ?_
  refine k_iload_n (pc' := 11) dX10_is_10 rfl ?_
  refine p_iastN (pc' := 12) (σ1 := putM G σ N D T z (va_up a 85 (upd (a 85) (6 * i + j) v)) tb) dX10_is_11 (by first | assumption | decide | omega) (by first | rfl | assumption) (by first | decide | omega) (by first | omega | (simp only [mL85, mL86, mL87, mL88, mL89, mL90, mL91, mL92, mL93, mL94, mL95, mL96, mL97, mL98, mL100, mL101, mL102, mL103]; omega)) (by exact (pMa (by decide))) ?_
  refine k_aload_n (pc' := 13) dX10_is_12 rfl ?_
  refine p_get (pc' := 16) clX10 (Nat.le_of_ble_eq_true rfl) fl_RX10_15 dX10_is_13 (by first | assumption | decide | omega) (by first | rfl | assumption) rfl ?_
  refine k_bipush (pc' := 18) (v := nI 6) dX10_is_16 rfl ?_
  refine k_iload_n (pc' := 19) dX10_is_18 rfl ?_
  refine k_imul (pc' := 20) dX10_is_19 (by first | exact pk_mul _ _ | rfl) ?_
  refine k_iload_n (pc' := 21) dX10_is_20 rfl ?_
  refine k_iadd (pc' := 22) dX10_is_21 (by first | exact nI_add _ _ | rfl) ?_
  refine k_iload_n (pc' := 23) dX10_is_22 rfl ?_
  refine p_iastN (pc' := 24) (σ1 := putM G σ N D T z (va_up a 85 (mIs i j v (a 85))) tb) dX10_is_23 (by first | assumption | decide | omega) (by first | rfl | assumption) (by first | decide | omega) (by first | omega | (simp only [mL85, mL86, mL87, mL88, mL89, mL90, mL91, mL92, mL93, mL94, mL95, mL96, mL97, mL98, mL100, mL101, mL102, mL103]; omega)) (by exact (by rw [pMa (by decide), up_up]; rfl)) ?_
  refine p_return dX10_is_24 rfl ?_
  exact ⟨rfl, rfl⟩
theorem c_ahead : ConP G mX10_ahead 2 [.ref (adr G 84)] (putM G σ N D T z a tb) (rV (putM G σ N D T (va_up z 18 (nI N)) (va_up a 97 (cpA 36 (a 85) (a 97))) tb)) := by
  refine ConP.of rfl (Nat.le_of_ble_eq_true rfl) ?_
  refine k_aload_n (pc' := 1) dX10_ahead_0 rfl ?_
  refine k_aload_n (pc' := 2) dX10_ahead_1 rfl ?_
  refine p_get (pc' := 5) clX10 (Nat.le_of_ble_eq_true rfl) fl_RX10_9 dX10_ahead_2 (by first | assumption | decide | omega) (by first | rfl | assumption) rfl ?_
  refine p_putI (pc' := 8) clX10 (Nat.le_of_ble_eq_true rfl) fl_RX10_93 dX10_ahead_5 rfl (Or.inl rfl) (by first | assumption | decide | omega) (by first | rfl | assumption) (Nat.le_of_ble_eq_true rfl) (by exact pMz18) ?_
  refine k_aload_n (pc' := 9) dX10_ahead_8 rfl ?_
  refine p_get (pc' := 12) clX10 (Nat.le_of_ble_eq_true rfl) fl_RX10_15 dX10_ahead_9 (by first | assumption | decide | omega) (by first | rfl | assumption) rfl ?_
  refine k_aload_n (pc' := 13) dX10_ahead_12 rfl ?_
  refine p_get (pc' := 16) clX10 (Nat.le_of_ble_eq_true rfl) fl_RX10_52 dX10_ahead_13 (by first | assumption | decide | omega) (by first | rfl | assumption) rfl ?_
  refine p_sV (ν := mX10_copies) (pc' := 19) dX10_ahead_16 ml_RX10_96 mo_X10_copies ms_X10_copies (Nat.le_of_ble_eq_true rfl) rfl rfl (Nat.le_of_ble_eq_true rfl) (by decide) (c_copies (p := 85) (q := 97) (n := 36) (m := 36) (f := a 85) (g := a 97) (by decide) (by decide) (by decide) rfl rfl (by decide) (by decide)) ?_
  refine p_return dX10_ahead_19 rfl ?_
  exact ⟨rfl, pMa (by decide)⟩
theorem c_off {x y : Int32} : ConP G mX10_off 1 [.int x, .int y] σ (rI (if x < y then y - x else x - y) σ) := by
  refine ConP.of rfl (Nat.le_of_ble_eq_true rfl) ?_
  by_cases h : x < y
  · refine k_iload_n (pc' := 1) dX10_off_0 rfl ?_
    refine k_iload_n (pc' := 2) dX10_off_1 rfl ?_
    refine k_icmp_ge (tgt := 11) (pc' := 5) dX10_off_2 rfl (fun zz_ => absurd zz_ (Int32.not_le.mpr h)) (fun _ => ?_)
    refine k_iload_n (pc' := 6) dX10_off_5 rfl ?_
    refine k_iload_n (pc' := 7) dX10_off_6 rfl ?_
    refine k_isub (pc' := 8) (v := y - x) dX10_off_7 rfl ?_
    refine k_goto (tgt := 14) dX10_off_8 rfl ?_
    refine p_ireturn dX10_off_14 rfl ?_
    exact ⟨by rw [if_pos h], rfl⟩
  · refine k_iload_n (pc' := 1) dX10_off_0 rfl ?_
    refine k_iload_n (pc' := 2) dX10_off_1 rfl ?_
    refine k_icmp_ge (tgt := 11) (pc' := 5) dX10_off_2 rfl (fun _ => ?_) (fun zz_ => absurd (Int32.not_lt.mp h) zz_)
    refine k_iload_n (pc' := 12) dX10_off_11 rfl ?_
    refine k_iload_n (pc' := 13) dX10_off_12 rfl ?_
    refine k_isub (pc' := 14) (v := x - y) dX10_off_13 rfl ?_
    refine p_ireturn dX10_off_14 rfl ?_
    exact ⟨by rw [if_neg h], rfl⟩
theorem c_becomes {P : Nat} (hP : P ≤ 6) : ConP G mX10_becomes 1 [.ref (adr G 84), .int (nI P)] (putM G σ N D T z a tb) (rV (putM G σ P D T z (va_up (va_up a 86 (clF P 6 (a 86))) 87 (clF P 6 (a 87))) tb)) := by
  refine ConP.of rfl (Nat.le_of_ble_eq_true rfl) ?_
  refine k_aload_n (pc' := 1) dX10_becomes_0 rfl ?_
  refine k_iload_n (pc' := 2) dX10_becomes_1 rfl ?_
  refine p_putI (pc' := 5) clX10 (Nat.le_of_ble_eq_true rfl) fl_RX10_9 dX10_becomes_2 rfl (Or.inl rfl) (by first | assumption | decide | omega) (by first | rfl | assumption) (Nat.le_of_ble_eq_true rfl) (by exact pMz0) ?_
  refine k_iload_n (pc' := 6) dX10_becomes_5 rfl ?_
  refine k_istore_n (pc' := 7) dX10_becomes_6 (Nat.le_of_ble_eq_true rfl) rfl ?_
  have e : ∀ n k (x y : Nat → Int32), upn n k (fun p (f : (Nat → Int32) × (Nat → Int32)) => (upd f.1 p (nI 0), upd f.2 p (nI 0))) (x, y) = (upn n k (fun i f => upd f i (nI 0)) x, upn n k (fun i f => upd f i (nI 0)) y) := by
    intro n
    induction n with
    | zero => intros; rfl
    | succ n ih => intro k a b; exact ih (k + 1) _ _
  have key := loopU (fun p (f : (Nat → Int32) × (Nat → Int32)) => OkP G mX10_becomes 1 (rV (putM G σ P D T z (va_up (va_up a 86 (clF P 6 (a 86))) 87 (clF P 6 (a 87))) tb)) 7 [some (.ref (adr G 84)), some (.int (nI P)), some (.int (nI p))] [] (putM G σ P D T z (va_up (va_up a 86 f.1) 87 f.2) tb)) (fun p f => (upd f.1 p (nI 0), upd f.2 p (nI 0))) 6 P (6 - P) (a 86, a 87) (by omega) ?_ ?_
  · have e2 : va_up (va_up a 86 (a 86)) 87 (a 87) = a := by rw [up_id rfl, up_id rfl]
    dsimp only at key
    rw [e2] at key
    exact key
  · intro p f _ hp ih
    refine k_iload_n (pc' := 8) dX10_becomes_7 rfl ?_
    refine k_bipush (pc' := 10) (v := nI 6) dX10_becomes_8 rfl ?_
    refine k_icmp_ge (tgt := 33) (pc' := 13) dX10_becomes_10 rfl (fun zz_ => absurd zz_ (nI_ge (by omega) (by omega))) (fun _ => ?_)
    refine k_aload_n (pc' := 14) dX10_becomes_13 rfl ?_
    refine p_get (pc' := 17) clX10 (Nat.le_of_ble_eq_true rfl) fl_RX10_19 dX10_becomes_14 (by first | assumption | decide | omega) (by first | rfl | assumption) rfl ?_
    refine k_iload_n (pc' := 18) dX10_becomes_17 rfl ?_
    refine k_iconst (pc' := 19) (v := nI 0) dX10_becomes_18 rfl ?_
    refine p_iastN (pc' := 20) (σ1 := putM G σ P D T z (va_up (va_up a 86 (upd f.1 p (nI 0))) 87 f.2) tb) dX10_becomes_19 (by first | assumption | decide | omega) (by first | rfl | assumption) (by first | decide | omega) (by first | omega | (simp only [mL85, mL86, mL87, mL88, mL89, mL90, mL91, mL92, mL93, mL94, mL95, mL96, mL97, mL98, mL100, mL101, mL102, mL103]; omega)) (by exact (by rw [pMa (by decide), up_c (by decide), up_up]; rfl)) ?_
    refine k_aload_n (pc' := 21) dX10_becomes_20 rfl ?_
    refine p_get (pc' := 24) clX10 (Nat.le_of_ble_eq_true rfl) fl_RX10_22 dX10_becomes_21 (by first | assumption | decide | omega) (by first | rfl | assumption) rfl ?_
    refine k_iload_n (pc' := 25) dX10_becomes_24 rfl ?_
    refine k_iconst (pc' := 26) (v := nI 0) dX10_becomes_25 rfl ?_
    refine p_iastN (pc' := 27) (σ1 := putM G σ P D T z (va_up (va_up a 86 (upd f.1 p (nI 0))) 87 (upd f.2 p (nI 0))) tb) dX10_becomes_26 (by first | assumption | decide | omega) (by first | rfl | assumption) (by first | decide | omega) (by first | omega | (simp only [mL85, mL86, mL87, mL88, mL89, mL90, mL91, mL92, mL93, mL94, mL95, mL96, mL97, mL98, mL100, mL101, mL102, mL103]; omega)) (by exact (by rw [pMa (by decide), up_up]; rfl)) ?_
    refine k_iinc (pc' := 30) (v := nI (p + 1)) dX10_becomes_27 rfl (nI_inc _) (Nat.le_of_ble_eq_true rfl) rfl ?_
    refine k_goto (tgt := 7) dX10_becomes_30 rfl ?_
    exact ih
  · rw [e]
    refine k_iload_n (pc' := 8) dX10_becomes_7 rfl ?_
    refine k_bipush (pc' := 10) (v := nI 6) dX10_becomes_8 rfl ?_
    refine k_icmp_ge (tgt := 33) (pc' := 13) dX10_becomes_10 rfl (fun _ => ?_) (fun zz_ => absurd (nI_le (by omega) (by omega)) zz_)
    refine p_return dX10_becomes_33 rfl ?_
    exact ⟨rfl, rfl⟩
end MODEL1
