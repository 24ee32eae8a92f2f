/-- what is known of holders: kinds and sizes -/
def hoOk (kd sz : Nat → Nat) (a : Nat → Nat → Int32) : Prop := ∀ h, h < 6 → a 91 h = nI (kd h) ∧ kd h ≤ 3 ∧ a 92 h = nI (sz h) ∧ sz h ≤ 20 ∧ (kd h = 1 ∨ kd h = 2 → 2 ≤ sz h ∧ sz h ≤ 6)
def fdB (v : Int32) (k : Nat) : Int32 := v >>> (nI (8 * k) &&& 31) &&& nI 255
def fd (v : Int32) : Nat → SP → SP
  | 0, s => s
  | k + 1, s => fd v k (upd s.1 s.2 (fdB v k), s.2 + 1)
def apM (b : Int32) (w : SP) : SP := (upd w.1 w.2 b, w.2 + 1)
def wFM (v : Int32) (w : SP) : SP :=
  let w1 := if v ≤ nI 99 then w else apM (nI 48 + v / nI 100) w
  let w2 := if v ≤ nI 9 then w1 else apM (nI 48 + (v / nI 10 - v / nI 10 / nI 10 * nI 10)) w1
  apM (nI 48 + (v - v / nI 10 * nI 10)) w2
def wM1 (f : Nat → Int32) (i j : Nat) (w : SP) : SP := wFM (f (6 * i + j)) (apM (if j = 0 then nI 59 else nI 44) w)
def wM2 (f : Nat → Int32) (i : Nat) (w : SP) : SP := upn i 0 (wM1 f i) w
def wMi (N : Nat) (f ln : Nat → Int32) : SP := upn (N - 1) 1 (wM2 f) (apM (nI (48 + N)) (ln, 0))
def mHo1 (N h : Nat) (f : Nat → Int32) (i j : Nat) (c : Nat → Int32) : Nat → Int32 := upd c (20 * h + pI N i j) (f (6 * i + j))
def mHo2 (N h : Nat) (f : Nat → Int32) (i : Nat) (c : Nat → Int32) : Nat → Int32 := upn (N - (i + 1)) (i + 1) (mHo1 N h f i) c
def mHo (N h : Nat) (f c : Nat → Int32) : Nat → Int32 := upn N 0 (mHo2 N h f) c
theorem apM_le {b : Int32} {w : SP} {n : Nat} (h : w.2 ≤ n) : (apM b w).2 ≤ n + 1 := by show w.2 + 1 ≤ n + 1; omega
theorem wFM_le {v : Int32} {w : SP} {n : Nat} (h : w.2 ≤ n) : (wFM v w).2 ≤ n + 3 := by
  unfold wFM
  dsimp only
  have h1 : (if v ≤ nI 99 then w else apM (nI 48 + v / nI 100) w).2 ≤ n + 1 := by
    split
    · omega
    · exact apM_le h
  have h2 : (if v ≤ nI 9 then (if v ≤ nI 99 then w else apM (nI 48 + v / nI 100) w) else apM (nI 48 + (v / nI 10 - v / nI 10 / nI 10 * nI 10)) (if v ≤ nI 99 then w else apM (nI 48 + v / nI 100) w)).2 ≤ n + 2 := by
    by_cases hv : v ≤ nI 9
    · rw [if_pos hv]; omega
    · rw [if_neg hv]; exact apM_le h1
  exact apM_le h2
section MODEL12
variable {G : GT} {σ : Sto} {N D T : Nat} {z : Nat → Int32} {a : Nat → Nat → Int32} {tb : Nat → Int64}
theorem m_feed (hT : T ≤ 80) {x y : Int32} : ConP G mX10_feed 2 [.ref (adr G 84), .int x, .int y] (putM G σ N D T z a tb) (fun v σ' => (¬ (1 ≤ y.toInt ∧ y.toInt ≤ 4) ∧ rI (-1) (putM G σ N D T z a tb) v σ') ∨ ∃ n, y = nI n ∧ 1 ≤ n ∧ n ≤ 4 ∧ ((80 < T + n ∧ rI (-3) (putM G σ N D T z a tb) v σ') ∨ (T + n ≤ 80 ∧ rI (nI (fd x n (a 90, T)).2) (putM G σ N D (fd x n (a 90, T)).2 z (va_up a 90 (fd x n (a 90, T)).1) tb) v σ'))) := by
  refine ConP.of rfl (Nat.le_of_ble_eq_true rfl) ?_
  refine k_iload_n (pc' := 1) dX10_feed_0 rfl ?_
  refine k_i2l (pc' := 2) dX10_feed_1 rfl ?_
  refine k_lconst (pc' := 3) (v := 1) dX10_feed_2 rfl ?_
  refine k_ldc2 (pc' := 6)  dX10_feed_3 cl_RX10_153 ?_
  refine p_sI (ν := mX10_in) (pc' := 9) dX10_feed_6 ml_RX10_77 mo_X10_in ms_X10_in (Nat.le_of_ble_eq_true rfl) rfl rfl (Nat.le_of_ble_eq_true rfl) (by decide) (c_in) ?_
  refine k_if_ne (tgt := 14) (pc' := 12) dX10_feed_9 rfl (fun c_9 => ?_) (fun c_9 => ?_)
  rotate_left
  · rw [bI_eq, in_w (p := 1) (q := 4) rfl rfl] at c_9
    refine k_iconst (pc' := 13) (v := -1) dX10_feed_12 rfl ?_
    refine p_ireturn dX10_feed_13 rfl ?_
    exact Or.inl ⟨c_9, rfl, rfl⟩
  rw [bI_ne, in_w (p := 1) (q := 4) rfl rfl] at c_9
  obtain ⟨n, hn, hy⟩ := nI_in0 (x := y) (n := 5) (by omega) (by omega) (by decide)
  subst hy
  rw [nI_e (by omega)] at c_9
  by_cases hf : 80 < T + n
  · refine k_aload_n (pc' := 15) dX10_feed_14 rfl ?_
    refine p_get (pc' := 18) clX10 (Nat.le_of_ble_eq_true rfl) fl_RX10_74 dX10_feed_15 (by first | assumption | decide | omega) (by first | rfl | assumption) rfl ?_
    refine k_iload_n (pc' := 19) dX10_feed_18 rfl ?_
    refine k_iadd (pc' := 20) dX10_feed_19 (by first | exact nI_add _ _ | rfl) ?_
    refine k_bipush (pc' := 22) (v := nI 80) dX10_feed_20 rfl ?_
    refine k_icmp_le (tgt := 28) (pc' := 25) dX10_feed_22 rfl (fun zz_ => absurd zz_ (nI_ge (by omega) (by omega))) (fun _ => ?_)
    refine k_bipush (pc' := 27) (v := -3) dX10_feed_25 rfl ?_
    refine p_ireturn dX10_feed_27 rfl ?_
    exact Or.inr ⟨n, rfl, by omega, by omega, Or.inl ⟨hf, rfl, rfl⟩⟩
  refine k_aload_n (pc' := 15) dX10_feed_14 rfl ?_
  refine p_get (pc' := 18) clX10 (Nat.le_of_ble_eq_true rfl) fl_RX10_74 dX10_feed_15 (by first | assumption | decide | omega) (by first | rfl | assumption) rfl ?_
  refine k_iload_n (pc' := 19) dX10_feed_18 rfl ?_
  refine k_iadd (pc' := 20) dX10_feed_19 (by first | exact nI_add _ _ | rfl) ?_
  refine k_bipush (pc' := 22) (v := nI 80) dX10_feed_20 rfl ?_
  refine k_icmp_le (tgt := 28) (pc' := 25) dX10_feed_22 rfl (fun _ => ?_) (fun zz_ => absurd (nI_le (by omega) (by omega)) zz_)
  refine k_iload_n (pc' := 29) dX10_feed_28 rfl ?_
  refine k_iconst (pc' := 30) (v := nI 1) dX10_feed_29 rfl ?_
  refine k_isub (pc' := 31) (v := pv n) dX10_feed_30 (by rw [show n = (n - 1) + 1 by omega]; exact pk_sub (by omega)) ?_
  refine k_istore_n (pc' := 32) dX10_feed_31 (Nat.le_of_ble_eq_true rfl) rfl ?_
  generalize hR : fd x n (a 90, T) = R
  have main : ∀ k (s : SP), s.2 + k = T + n → k ≤ 4 → fd x k s = R → OkP G mX10_feed 2 (fun v σ' => (¬ (1 ≤ (nI n).toInt ∧ (nI n).toInt ≤ 4) ∧ rI (-1) (putM G σ N D T z a tb) v σ') ∨ ∃ n', nI n = nI n' ∧ 1 ≤ n' ∧ n' ≤ 4 ∧ ((80 < T + n' ∧ rI (-3) (putM G σ N D T z a tb) v σ') ∨ (T + n' ≤ 80 ∧ rI (nI (fd x n' (a 90, T)).2) (putM G σ N D (fd x n' (a 90, T)).2 z (va_up a 90 (fd x n' (a 90, T)).1) tb) v σ'))) 32 [some (.ref (adr G 84)), some (.int x), some (.int (nI n)), some (.int (pv k))] [] (putM G σ N D s.2 z (va_up a 90 s.1) tb) := by
    intro k
    induction k with
    | zero =>
      intro s hs _ he
      have he : s = R := he
      refine k_iload_n (pc' := 33) dX10_feed_32 rfl ?_
      refine k_if_lt (tgt := 71) (pc' := 36) dX10_feed_33 rfl (fun _ => ?_) (fun zz_ => absurd (by decide) zz_)
      refine k_aload_n (pc' := 72) dX10_feed_71 rfl ?_
      refine p_get (pc' := 75) clX10 (Nat.le_of_ble_eq_true rfl) fl_RX10_74 dX10_feed_72 (by first | assumption | decide | omega) (by first | rfl | assumption) rfl ?_
      refine p_ireturn dX10_feed_75 rfl ?_
      exact Or.inr ⟨n, rfl, by omega, by omega, Or.inr ⟨by omega, by rw [hR, he], by rw [hR, he]⟩⟩
    | succ k ih =>
      intro s hs hk he
      have he : fd x k (upd s.1 s.2 (fdB x k), s.2 + 1) = R := he
      refine k_iload_n (pc' := 33) dX10_feed_32 rfl ?_
      refine k_if_lt (tgt := 71) (pc' := 36) dX10_feed_33 rfl (fun zz_ => absurd zz_ (nI_pos (by omega))) (fun _ => ?_)
      refine k_aload_n (pc' := 37) dX10_feed_36 rfl ?_
      refine p_get (pc' := 40) clX10 (Nat.le_of_ble_eq_true rfl) fl_RX10_31 dX10_feed_37 (by first | assumption | decide | omega) (by first | rfl | assumption) rfl ?_
      refine k_aload_n (pc' := 41) dX10_feed_40 rfl ?_
      refine p_get (pc' := 44) clX10 (Nat.le_of_ble_eq_true rfl) fl_RX10_74 dX10_feed_41 (by first | assumption | decide | omega) (by first | rfl | assumption) rfl ?_
      refine k_iload_n (pc' := 45) dX10_feed_44 rfl ?_
      refine k_bipush (pc' := 47) (v := nI 8) dX10_feed_45 rfl ?_
      refine k_iload_n (pc' := 48) dX10_feed_47 rfl ?_
      refine k_imul (pc' := 49) dX10_feed_48 (by first | exact pk_mul _ _ | rfl) ?_
      refine k_ishr (pc' := 50) dX10_feed_49 rfl ?_
      refine k_sipush (pc' := 53) (v := nI 255) dX10_feed_50 rfl ?_
      refine k_iand (pc' := 54) dX10_feed_53 rfl ?_
      refine p_iastN (pc' := 55) (σ1 := putM G σ N D s.2 z (va_up a 90 (upd s.1 s.2 (fdB x k))) tb) dX10_feed_54 (by first | assumption | decide | omega) (by first | rfl | assumption) (by first | decide | omega) (by first | omega | (simp only [mL85, mL86, mL87, mL88, mL89, mL90, mL91, mL92, mL93, mL94, mL95, mL96, mL97, mL98, mL100, mL101, mL102, mL103]; omega)) (by exact (by rw [pMa (by decide), up_up]; rfl)) ?_
      refine k_aload_n (pc' := 56) dX10_feed_55 rfl ?_
      refine k_dup (pc' := 57) dX10_feed_56 rfl ?_
      refine p_get (pc' := 60) clX10 (Nat.le_of_ble_eq_true rfl) fl_RX10_74 dX10_feed_57 (by first | assumption | decide | omega) (by first | rfl | assumption) rfl ?_
      refine k_iconst (pc' := 61) (v := nI 1) dX10_feed_60 rfl ?_
      refine k_iadd (pc' := 62) dX10_feed_61 (by first | exact nI_add _ _ | rfl) ?_
      refine p_putI (pc' := 65) clX10 (Nat.le_of_ble_eq_true rfl) fl_RX10_74 dX10_feed_62 rfl (Or.inl rfl) (by first | assumption | decide | omega) (by first | rfl | assumption) (Nat.le_of_ble_eq_true rfl) (by exact pMz8) ?_
      refine k_iinc (pc' := 68) (v := pv k) dX10_feed_65 rfl (pv_dec k) (Nat.le_of_ble_eq_true rfl) rfl ?_
      refine k_goto (tgt := 32) dX10_feed_68 rfl ?_
      exact ih (upd s.1 s.2 (fdB x k), s.2 + 1) (by show s.2 + 1 + k = T + n; omega) (by omega) he
  have := main n (a 90, T) rfl (by omega) hR
  dsimp only at this
  rw [show va_up a 90 (a 90) = a from up_id rfl] at this
  exact this
theorem m_wipe : ConP G mX10_wipe 1 [.ref (adr G 84)] (putM G σ N D T z a tb) (rI (nI T) (putM G σ N D 0 z a tb)) := by
  refine ConP.of rfl (Nat.le_of_ble_eq_true rfl) ?_
  refine k_aload_n (pc' := 1) dX10_wipe_0 rfl ?_
  refine p_get (pc' := 4) clX10 (Nat.le_of_ble_eq_true rfl) fl_RX10_74 dX10_wipe_1 (by first | assumption | decide | omega) (by first | rfl | assumption) rfl ?_
  refine k_istore_n (pc' := 5) dX10_wipe_4 (Nat.le_of_ble_eq_true rfl) rfl ?_
  refine k_aload_n (pc' := 6) dX10_wipe_5 rfl ?_
  refine k_iconst (pc' := 7) (v := nI 0) dX10_wipe_6 rfl ?_
  refine p_putI (pc' := 10) clX10 (Nat.le_of_ble_eq_true rfl) fl_RX10_74 dX10_wipe_7 rfl (Or.inl rfl) (by first | assumption | decide | omega) (by first | rfl | assumption) (Nat.le_of_ble_eq_true rfl) (by exact pMz8) ?_
  refine k_iload_n (pc' := 11) dX10_wipe_10 rfl ?_
  refine p_ireturn dX10_wipe_11 rfl ?_
  exact ⟨rfl, rfl⟩
theorem c_spells {w : SP} (hw : w.2 < 120) {b : Int32} : ConP G mX10_spells 1 [.ref (adr G 84), .int b] (putM G σ N D T (va_up z 31 (nI w.2)) (va_up a 103 w.1) tb) (rV (putM G σ N D T (va_up z 31 (nI (apM b w).2)) (va_up a 103 (apM b w).1) tb)) := by
  refine ConP.of rfl (Nat.le_of_ble_eq_true rfl) ?_
  refine k_aload_n (pc' := 1) dX10_spells_0 rfl ?_
  refine p_get (pc' := 4) clX10 (Nat.le_of_ble_eq_true rfl) fl_RX10_71 dX10_spells_1 (by first | assumption | decide | omega) (by first | rfl | assumption) rfl ?_
  refine k_aload_n (pc' := 5) dX10_spells_4 rfl ?_
  refine p_get (pc' := 8) clX10 (Nat.le_of_ble_eq_true rfl) fl_RX10_262 dX10_spells_5 (by first | assumption | decide | omega) (by first | rfl | assumption) rfl ?_
  refine k_iload_n (pc' := 9) dX10_spells_8 rfl ?_
  refine p_iastN (pc' := 10) (σ1 := putM G σ N D T (va_up z 31 (nI w.2)) (va_up a 103 (upd w.1 w.2 b)) tb) dX10_spells_9 (by first | assumption | decide | omega) (by first | rfl | assumption) (by first | decide | omega) (by first | omega | (simp only [mL85, mL86, mL87, mL88, mL89, mL90, mL91, mL92, mL93, mL94, mL95, mL96, mL97, mL98, mL100, mL101, mL102, mL103]; omega)) (by exact (by rw [pMa (by decide), up_up]; rfl)) ?_
  refine k_aload_n (pc' := 11) dX10_spells_10 rfl ?_
  refine k_dup (pc' := 12) dX10_spells_11 rfl ?_
  refine p_get (pc' := 15) clX10 (Nat.le_of_ble_eq_true rfl) fl_RX10_262 dX10_spells_12 (by first | assumption | decide | omega) (by first | rfl | assumption) rfl ?_
  refine k_iconst (pc' := 16) (v := nI 1) dX10_spells_15 rfl ?_
  refine k_iadd (pc' := 17) (v := nI (w.2 + 1)) dX10_spells_16 (nI_add _ _) ?_
  refine p_putI (pc' := 20) (σ1 := putM G σ N D T (va_up z 31 (nI (w.2 + 1))) (va_up a 103 (upd w.1 w.2 b)) tb) clX10 (Nat.le_of_ble_eq_true rfl) fl_RX10_262 dX10_spells_17 rfl (Or.inl rfl) (by first | assumption | decide | omega) (by first | rfl | assumption) (Nat.le_of_ble_eq_true rfl) (by exact (by rw [pMz31, up_up])) ?_
  refine p_return dX10_spells_20 rfl ?_
  exact ⟨rfl, rfl⟩
theorem c_spellsNumber {w : SP} (hw : w.2 < 110) {v : Int32} : ConP G mX10_spellsNumber 2 [.ref (adr G 84), .int v] (putM G σ N D T (va_up z 31 (nI w.2)) (va_up a 103 w.1) tb) (rV (putM G σ N D T (va_up z 31 (nI (wFM v w).2)) (va_up a 103 (wFM v w).1) tb)) := by
  have p3 : ∀ w2 : SP, w2.2 < 113 → apM (nI 48 + (v - v / nI 10 * nI 10)) w2 = wFM v w → OkP G mX10_spellsNumber 2 (rV (putM G σ N D T (va_up z 31 (nI (wFM v w).2)) (va_up a 103 (wFM v w).1) tb)) 37 [some (.ref (adr G 84)), some (.int v)] [] (putM G σ N D T (va_up z 31 (nI w2.2)) (va_up a 103 w2.1) tb) := by
    intro w2 h2 e
    refine k_aload_n (pc' := 38) dX10_spellsNumber_37 rfl ?_
    refine k_bipush (pc' := 40) (v := nI 48) dX10_spellsNumber_38 rfl ?_
    refine k_iload_n (pc' := 41) dX10_spellsNumber_40 rfl ?_
    refine k_bipush (pc' := 43) (v := nI 10) dX10_spellsNumber_41 rfl ?_
    refine k_irem (pc' := 44) (v := v - v / nI 10 * nI 10) dX10_spellsNumber_43 (by decide) rfl ?_
    refine k_iadd (pc' := 45) (v := nI 48 + (v - v / nI 10 * nI 10)) dX10_spellsNumber_44 rfl ?_
    refine p_vV (ν := mX10_spells) (pc' := 48) dX10_spellsNumber_45 ml_RX10_265 mo_X10_spells mv_X10_spells clX10 (Nat.le_of_ble_eq_true rfl) rfl rfl (Nat.le_of_ble_eq_true rfl) (by first | assumption | decide | omega) (by first | rfl | assumption) (by decide) (c_spells (by omega)) ?_
    refine p_return dX10_spellsNumber_48 rfl ?_
    exact ⟨rfl, by rw [e]⟩
  have p2 : ∀ w1 : SP, w1.2 < 112 → apM (nI 48 + (v - v / nI 10 * nI 10)) (if v ≤ nI 9 then w1 else apM (nI 48 + (v / nI 10 - v / nI 10 / nI 10 * nI 10)) w1) = wFM v w → OkP G mX10_spellsNumber 2 (rV (putM G σ N D T (va_up z 31 (nI (wFM v w).2)) (va_up a 103 (wFM v w).1) tb)) 17 [some (.ref (adr G 84)), some (.int v)] [] (putM G σ N D T (va_up z 31 (nI w1.2)) (va_up a 103 w1.1) tb) := by
    intro w1 h1 e
    by_cases h : v ≤ nI 9
    · rw [if_pos h] at e
      refine k_iload_n (pc' := 18) dX10_spellsNumber_17 rfl ?_
      refine k_bipush (pc' := 20) (v := nI 9) dX10_spellsNumber_18 rfl ?_
      refine k_icmp_le (tgt := 37) (pc' := 23) dX10_spellsNumber_20 rfl (fun _ => ?_) (fun zz_ => absurd h zz_)
      exact p3 w1 (by omega) e
    · rw [if_neg h] at e
      refine k_iload_n (pc' := 18) dX10_spellsNumber_17 rfl ?_
      refine k_bipush (pc' := 20) (v := nI 9) dX10_spellsNumber_18 rfl ?_
      refine k_icmp_le (tgt := 37) (pc' := 23) dX10_spellsNumber_20 rfl (fun zz_ => absurd zz_ h) (fun _ => ?_)
      refine k_aload_n (pc' := 24) dX10_spellsNumber_23 rfl ?_
      refine k_bipush (pc' := 26) (v := nI 48) dX10_spellsNumber_24 rfl ?_
      refine k_iload_n (pc' := 27) dX10_spellsNumber_26 rfl ?_
      refine k_bipush (pc' := 29) (v := nI 10) dX10_spellsNumber_27 rfl ?_
      refine k_idiv (pc' := 30) (v := v / nI 10) dX10_spellsNumber_29 (by decide) rfl ?_
      refine k_bipush (pc' := 32) (v := nI 10) dX10_spellsNumber_30 rfl ?_
      refine k_irem (pc' := 33) (v := v / nI 10 - v / nI 10 / nI 10 * nI 10) dX10_spellsNumber_32 (by decide) rfl ?_
      refine k_iadd (pc' := 34) (v := nI 48 + (v / nI 10 - v / nI 10 / nI 10 * nI 10)) dX10_spellsNumber_33 rfl ?_
      refine p_vV (ν := mX10_spells) (pc' := 37) dX10_spellsNumber_34 ml_RX10_265 mo_X10_spells mv_X10_spells clX10 (Nat.le_of_ble_eq_true rfl) rfl rfl (Nat.le_of_ble_eq_true rfl) (by first | assumption | decide | omega) (by first | rfl | assumption) (by decide) (c_spells (by omega)) ?_
      exact p3 _ (by show w1.2 + 1 < 113; omega) e
  refine ConP.of rfl (Nat.le_of_ble_eq_true rfl) ?_
  by_cases h : v ≤ nI 99
  · refine k_iload_n (pc' := 1) dX10_spellsNumber_0 rfl ?_
    refine k_bipush (pc' := 3) (v := nI 99) dX10_spellsNumber_1 rfl ?_
    refine k_icmp_le (tgt := 17) (pc' := 6) dX10_spellsNumber_3 rfl (fun _ => ?_) (fun zz_ => absurd h zz_)
    exact p2 w (by omega) (by unfold wFM; dsimp only; rw [if_pos h])
  · refine k_iload_n (pc' := 1) dX10_spellsNumber_0 rfl ?_
    refine k_bipush (pc' := 3) (v := nI 99) dX10_spellsNumber_1 rfl ?_
    refine k_icmp_le (tgt := 17) (pc' := 6) dX10_spellsNumber_3 rfl (fun zz_ => absurd zz_ h) (fun _ => ?_)
    refine k_aload_n (pc' := 7) dX10_spellsNumber_6 rfl ?_
    refine k_bipush (pc' := 9) (v := nI 48) dX10_spellsNumber_7 rfl ?_
    refine k_iload_n (pc' := 10) dX10_spellsNumber_9 rfl ?_
    refine k_bipush (pc' := 12) (v := nI 100) dX10_spellsNumber_10 rfl ?_
    refine k_idiv (pc' := 13) (v := v / nI 100) dX10_spellsNumber_12 (by decide) rfl ?_
    refine k_iadd (pc' := 14) (v := nI 48 + v / nI 100) dX10_spellsNumber_13 rfl ?_
    refine p_vV (ν := mX10_spells) (pc' := 17) dX10_spellsNumber_14 ml_RX10_265 mo_X10_spells mv_X10_spells clX10 (Nat.le_of_ble_eq_true rfl) rfl rfl (Nat.le_of_ble_eq_true rfl) (by first | assumption | decide | omega) (by first | rfl | assumption) (by decide) (c_spells (by omega)) ?_
    exact p2 _ (by show w.2 + 1 < 112; omega) (by unfold wFM; dsimp only; rw [if_neg h])
theorem m_spell (hN : 2 ≤ N) (hN6 : N ≤ 6) {x : Int32} : ConP G mX10_spell 3 [.ref (adr G 84), .int x] (putM G σ N D T z a tb) (fun v σ' => (x.toInt < -1 ∧ rI (-1) (putM G σ N D T z a tb) v σ') ∨ (-1 ≤ x.toInt ∧ rI (if x.toInt < 0 then nI (wMi N (a 85) (a 103)).2 else if x.toInt < (wMi N (a 85) (a 103)).2 then (wMi N (a 85) (a 103)).1 x.toInt.toNat else -2) (putM G σ N D T (va_up z 31 (nI (wMi N (a 85) (a 103)).2)) (va_up a 103 (wMi N (a 85) (a 103)).1) tb) v σ')) := by
  refine ConP.of rfl (Nat.le_of_ble_eq_true rfl) ?_
  refine k_iload_n (pc' := 1) dX10_spell_0 rfl ?_
  refine k_iconst (pc' := 2) (v := -1) dX10_spell_1 rfl ?_
  refine k_icmp_ge (tgt := 7) (pc' := 5) dX10_spell_2 rfl (fun c_2 => ?_) (fun c_2 => ?_)
  rotate_left
  · rw [iLe, im1] at c_2
    refine k_iconst (pc' := 6) (v := -1) dX10_spell_5 rfl ?_
    refine p_ireturn dX10_spell_6 rfl ?_
    exact Or.inl ⟨by omega, rfl, rfl⟩
  rw [iLe, im1] at c_2
  refine k_aload_n (pc' := 8) dX10_spell_7 rfl ?_
  refine k_iconst (pc' := 9) (v := nI 0) dX10_spell_8 rfl ?_
  refine p_putI (pc' := 12) clX10 (Nat.le_of_ble_eq_true rfl) fl_RX10_262 dX10_spell_9 rfl (Or.inl rfl) (by first | assumption | decide | omega) (by first | rfl | assumption) (Nat.le_of_ble_eq_true rfl) (by exact pMz31) ?_
  refine k_aload_n (pc' := 13) dX10_spell_12 rfl ?_
  refine k_bipush (pc' := 15) (v := nI 48) dX10_spell_13 rfl ?_
  refine k_aload_n (pc' := 16) dX10_spell_15 rfl ?_
  refine p_get (pc' := 19) clX10 (Nat.le_of_ble_eq_true rfl) fl_RX10_9 dX10_spell_16 (by first | assumption | decide | omega) (by first | rfl | assumption) rfl ?_
  refine k_iadd (pc' := 20) (v := nI (48 + N)) dX10_spell_19 (nI_add _ _) ?_
  have e0 : putM G σ N D T (va_up z 31 (nI 0)) a tb = putM G σ N D T (va_up z 31 (nI (a 103, 0).2)) (va_up a 103 (a 103, 0).1) tb := by
    dsimp only
    rw [show va_up a 103 (a 103) = a from up_id rfl]
  rw [e0]
  refine p_vV (ν := mX10_spells) (pc' := 23) dX10_spell_20 ml_RX10_265 mo_X10_spells mv_X10_spells clX10 (Nat.le_of_ble_eq_true rfl) rfl rfl (Nat.le_of_ble_eq_true rfl) (by first | assumption | decide | omega) (by first | rfl | assumption) (by decide) (c_spells (w := (a 103, 0)) (show 0 < 120 by decide)) ?_
  refine k_iconst (pc' := 24) (v := nI 1) dX10_spell_23 rfl ?_
  refine k_istore_n (pc' := 25) dX10_spell_24 (Nat.le_of_ble_eq_true rfl) rfl ?_
  generalize hQ : (fun v σ' => (x.toInt < -1 ∧ rI (-1) (putM G σ N D T z a tb) v σ') ∨ (-1 ≤ x.toInt ∧ rI (if x.toInt < 0 then nI (wMi N (a 85) (a 103)).2 else if x.toInt < (wMi N (a 85) (a 103)).2 then (wMi N (a 85) (a 103)).1 x.toInt.toNat else -2) (putM G σ N D T (va_up z 31 (nI (wMi N (a 85) (a 103)).2)) (va_up a 103 (wMi N (a 85) (a 103)).1) tb) v σ')) = Qf
  have le2 : ∀ i m j (s : SP), s.2 ≤ 100 → (upn m j (wM1 (a 85) i) s).2 ≤ s.2 + 4 * m := by
    intro i m
    induction m with
    | zero => intro j s _; exact Nat.le_refl _
    | succ m ih =>
      intro j s hs
      have h1 : (wM1 (a 85) i j s).2 ≤ s.2 + 4 := wFM_le (apM_le (Nat.le_refl _))
      show (upn m (j + 1) (wM1 (a 85) i) (wM1 (a 85) i j s)).2 ≤ _
      by_cases h2 : (wM1 (a 85) i j s).2 ≤ 100
      · have := ih (j + 1) _ h2
        omega
      · have gen : ∀ m j (s : SP), (upn m j (wM1 (a 85) i) s).2 ≤ s.2 + 4 * m := by
          intro m
          induction m with
          | zero => intro j s; exact Nat.le_refl _
          | succ m ihm =>
            intro j s
            have h3 : (wM1 (a 85) i j s).2 ≤ s.2 + 4 := wFM_le (apM_le (Nat.le_refl _))
            have := ihm (j + 1) (wM1 (a 85) i j s)
            show (upn m (j + 1) (wM1 (a 85) i) (wM1 (a 85) i j s)).2 ≤ _
            omega
        have := gen m (j + 1) (wM1 (a 85) i j s)
        omega
  have outer : ∀ n i (s : SP), i + n = N → 1 ≤ i → s.2 ≤ 1 + 4 * (i * (i - 1) / 2) → upn n i (wM2 (a 85)) s = wMi N (a 85) (a 103) → ∀ y, OkP G mX10_spell 3 Qf 25 [some (.ref (adr G 84)), some (.int x), some (.int (nI i)), y] [] (putM G σ N D T (va_up z 31 (nI s.2)) (va_up a 103 s.1) tb) := by
    intro n
    induction n with
    | zero =>
      intro i s hi hi1 hs he y
      have he : s = wMi N (a 85) (a 103) := he
      have hs2 : s.2 ≤ 61 := by
        have : i * (i - 1) / 2 ≤ 15 := by
          have h3 : i * (i - 1) ≤ 6 * 5 := Nat.mul_le_mul (by omega) (by omega)
          omega
        omega
      rw [← he] at hQ
      by_cases h0 : x.toInt < 0
      · refine k_iload_n (pc' := 26) dX10_spell_25 rfl ?_
        refine k_aload_n (pc' := 27) dX10_spell_26 rfl ?_
        refine p_get (pc' := 30) clX10 (Nat.le_of_ble_eq_true rfl) fl_RX10_9 dX10_spell_27 (by first | assumption | decide | omega) (by first | rfl | assumption) rfl ?_
        refine k_icmp_ge (tgt := 82) (pc' := 33) dX10_spell_30 rfl (fun _ => ?_) (fun zz_ => absurd (nI_le (by omega) (by omega)) zz_)
        refine k_iload_n (pc' := 83) dX10_spell_82 rfl ?_
        refine k_if_ge (tgt := 91) (pc' := 86) dX10_spell_83 rfl (fun zz_ => absurd zz_ (by rw [iLe, i0]; omega)) (fun _ => ?_)
        refine k_aload_n (pc' := 87) dX10_spell_86 rfl ?_
        refine p_get (pc' := 90) clX10 (Nat.le_of_ble_eq_true rfl) fl_RX10_262 dX10_spell_87 (by first | assumption | decide | omega) (by first | rfl | assumption) rfl ?_
        refine p_ireturn dX10_spell_90 rfl ?_
        rw [← hQ]
        exact Or.inr ⟨c_2, by rw [if_pos h0]; rfl, rfl⟩
      · by_cases h1 : x.toInt < s.2
        · obtain ⟨k, hk, hx⟩ := nI_in0 (x := x) (by omega) h1 (by omega)
          subst hx
          rw [nI_e (by omega)] at h0 h1 hQ
          refine k_iload_n (pc' := 26) dX10_spell_25 rfl ?_
          refine k_aload_n (pc' := 27) dX10_spell_26 rfl ?_
          refine p_get (pc' := 30) clX10 (Nat.le_of_ble_eq_true rfl) fl_RX10_9 dX10_spell_27 (by first | assumption | decide | omega) (by first | rfl | assumption) rfl ?_
          refine k_icmp_ge (tgt := 82) (pc' := 33) dX10_spell_30 rfl (fun _ => ?_) (fun zz_ => absurd (nI_le (by omega) (by omega)) zz_)
          refine k_iload_n (pc' := 83) dX10_spell_82 rfl ?_
          refine k_if_ge (tgt := 91) (pc' := 86) dX10_spell_83 rfl (fun _ => ?_) (fun zz_ => absurd (nI_pos' (by omega)) zz_)
          refine k_iload_n (pc' := 92) dX10_spell_91 rfl ?_
          refine k_aload_n (pc' := 93) dX10_spell_92 rfl ?_
          refine p_get (pc' := 96) clX10 (Nat.le_of_ble_eq_true rfl) fl_RX10_262 dX10_spell_93 (by first | assumption | decide | omega) (by first | rfl | assumption) rfl ?_
          refine k_icmp_ge (tgt := 108) (pc' := 99) dX10_spell_96 rfl (fun zz_ => absurd zz_ (by show ¬ nI s.2 ≤ nI k; exact nI_ge hk (by omega))) (fun _ => ?_)
          refine k_aload_n (pc' := 100) dX10_spell_99 rfl ?_
          refine p_get (pc' := 103) clX10 (Nat.le_of_ble_eq_true rfl) fl_RX10_71 dX10_spell_100 (by first | assumption | decide | omega) (by first | rfl | assumption) rfl ?_
          refine k_iload_n (pc' := 104) dX10_spell_103 rfl ?_
          refine p_ialdN (pc' := 105) dX10_spell_104 (by first | assumption | decide | omega) (by first | rfl | assumption) (by first | decide | omega) (by first | omega | (simp only [mL85, mL86, mL87, mL88, mL89, mL90, mL91, mL92, mL93, mL94, mL95, mL96, mL97, mL98, mL100, mL101, mL102, mL103]; omega)) ?_
          refine k_goto (tgt := 110) dX10_spell_105 rfl ?_
          refine p_ireturn dX10_spell_110 rfl ?_
          rw [← hQ]
          refine Or.inr ⟨by omega, ?_, rfl⟩
          rw [if_neg h0, if_pos h1]
          rfl
        · refine k_iload_n (pc' := 26) dX10_spell_25 rfl ?_
          refine k_aload_n (pc' := 27) dX10_spell_26 rfl ?_
          refine p_get (pc' := 30) clX10 (Nat.le_of_ble_eq_true rfl) fl_RX10_9 dX10_spell_27 (by first | assumption | decide | omega) (by first | rfl | assumption) rfl ?_
          refine k_icmp_ge (tgt := 82) (pc' := 33) dX10_spell_30 rfl (fun _ => ?_) (fun zz_ => absurd (nI_le (by omega) (by omega)) zz_)
          refine k_iload_n (pc' := 83) dX10_spell_82 rfl ?_
          refine k_if_ge (tgt := 91) (pc' := 86) dX10_spell_83 rfl (fun _ => ?_) (fun zz_ => absurd (by rw [iLe, i0]; omega) zz_)
          refine k_iload_n (pc' := 92) dX10_spell_91 rfl ?_
          refine k_aload_n (pc' := 93) dX10_spell_92 rfl ?_
          refine p_get (pc' := 96) clX10 (Nat.le_of_ble_eq_true rfl) fl_RX10_262 dX10_spell_93 (by first | assumption | decide | omega) (by first | rfl | assumption) rfl ?_
          refine k_icmp_ge (tgt := 108) (pc' := 99) dX10_spell_96 rfl (fun _ => ?_) (fun zz_ => absurd (by show nI s.2 ≤ x; rw [iLe, nI_e (by omega)]; omega) zz_)
          refine k_bipush (pc' := 110) (v := -2) dX10_spell_108 rfl ?_
          refine p_ireturn dX10_spell_110 rfl ?_
          rw [← hQ]
          exact Or.inr ⟨c_2, by rw [if_neg h0, if_neg h1], rfl⟩
    | succ n ih =>
      intro i s hi hi1 hs he y
      have he : upn n (i + 1) (wM2 (a 85)) (wM2 (a 85) i s) = wMi N (a 85) (a 103) := he
      have hsb : s.2 ≤ 1 + 4 * 10 := by
        have : i * (i - 1) / 2 ≤ 10 := by
          have h3 : i * (i - 1) ≤ 5 * 4 := Nat.mul_le_mul (by omega) (by omega)
          omega
        omega
      have hnx : (wM2 (a 85) i s).2 ≤ 1 + 4 * ((i + 1) * (i + 1 - 1) / 2) := by
        have h1 := le2 i i 0 s (by omega)
        have h2 : (i + 1) * (i + 1 - 1) / 2 = i * (i - 1) / 2 + i := by
          have : ∀ i, i < 7 → (i + 1) * (i + 1 - 1) / 2 = i * (i - 1) / 2 + i := by decide +kernel
          exact this i (by omega)
        unfold wM2
        rw [h2]
        omega
      refine k_iload_n (pc' := 26) dX10_spell_25 rfl ?_
      refine k_aload_n (pc' := 27) dX10_spell_26 rfl ?_
      refine p_get (pc' := 30) clX10 (Nat.le_of_ble_eq_true rfl) fl_RX10_9 dX10_spell_27 (by first | assumption | decide | omega) (by first | rfl | assumption) rfl ?_
      refine k_icmp_ge (tgt := 82) (pc' := 33) dX10_spell_30 rfl (fun zz_ => absurd zz_ (nI_ge (by omega) (by omega))) (fun _ => ?_)
      refine k_iconst (pc' := 34) (v := nI 0) dX10_spell_33 rfl ?_
      refine k_istore_n (pc' := 35) dX10_spell_34 (Nat.le_of_ble_eq_true rfl) rfl ?_
      generalize hw2 : wM2 (a 85) i s = W at he hnx
      have inner : ∀ m j (s : SP), j + m = i → s.2 ≤ 41 + 4 * j → upn m j (wM1 (a 85) i) s = W → OkP G mX10_spell 3 Qf 35 [some (.ref (adr G 84)), some (.int x), some (.int (nI i)), some (.int (nI j))] [] (putM G σ N D T (va_up z 31 (nI s.2)) (va_up a 103 s.1) tb) := by
        intro m
        induction m with
        | zero =>
          intro j s hj hs he2
          have he2 : s = W := he2
          subst he2
          refine k_iload_n (pc' := 36) dX10_spell_35 rfl ?_
          refine k_iload_n (pc' := 37) dX10_spell_36 rfl ?_
          refine k_icmp_ge (tgt := 76) (pc' := 40) dX10_spell_37 rfl (fun _ => ?_) (fun zz_ => absurd (nI_le (by omega) (by omega)) zz_)
          refine k_iinc (pc' := 79) (v := nI (i + 1)) dX10_spell_76 rfl (nI_inc _) (Nat.le_of_ble_eq_true rfl) rfl ?_
          refine k_goto (tgt := 25) dX10_spell_79 rfl ?_
          exact ih (i + 1) s (by omega) (by omega) hnx he _
        | succ m ihm =>
          intro j s hj hs he2
          have he2 : upn m (j + 1) (wM1 (a 85) i) (wM1 (a 85) i j s) = W := he2
          have hb : (wM1 (a 85) i j s).2 ≤ s.2 + 4 := wFM_le (apM_le (Nat.le_refl _))
          have rest : ∀ c : Int32, c = (if j = 0 then nI 59 else nI 44) → OkP G mX10_spell 3 Qf 52 [some (.ref (adr G 84)), some (.int x), some (.int (nI i)), some (.int (nI j))] [.int c, .ref (adr G 84)] (putM G σ N D T (va_up z 31 (nI s.2)) (va_up a 103 s.1) tb) := by
            intro c hc
            refine p_vV (ν := mX10_spells) (pc' := 55) dX10_spell_52 ml_RX10_265 mo_X10_spells mv_X10_spells clX10 (Nat.le_of_ble_eq_true rfl) rfl rfl (Nat.le_of_ble_eq_true rfl) (by first | assumption | decide | omega) (by first | rfl | assumption) (by decide) (c_spells (by omega)) ?_
            refine k_aload_n (pc' := 56) dX10_spell_55 rfl ?_
            refine k_aload_n (pc' := 57) dX10_spell_56 rfl ?_
            refine p_get (pc' := 60) clX10 (Nat.le_of_ble_eq_true rfl) fl_RX10_15 dX10_spell_57 (by first | assumption | decide | omega) (by first | rfl | assumption) rfl ?_
            refine k_bipush (pc' := 62) (v := nI 6) dX10_spell_60 rfl ?_
            refine k_iload_n (pc' := 63) dX10_spell_62 rfl ?_
            refine k_imul (pc' := 64) dX10_spell_63 (by first | exact pk_mul _ _ | rfl) ?_
            refine k_iload_n (pc' := 65) dX10_spell_64 rfl ?_
            refine k_iadd (pc' := 66) dX10_spell_65 (by first | exact nI_add _ _ | rfl) ?_
            refine p_ialdN (pc' := 67) dX10_spell_66 (by first | assumption | decide | omega) (by first | rfl | assumption) (by first | decide | omega) (by first | omega | (simp only [mL85, mL86, mL87, mL88, mL89, mL90, mL91, mL92, mL93, mL94, mL95, mL96, mL97, mL98, mL100, mL101, mL102, mL103]; omega)) ?_
            refine p_vV (ν := mX10_spellsNumber) (pc' := 70) dX10_spell_67 ml_RX10_268 mo_X10_spellsNumber mv_X10_spellsNumber clX10 (Nat.le_of_ble_eq_true rfl) rfl rfl (Nat.le_of_ble_eq_true rfl) (by first | assumption | decide | omega) (by first | rfl | assumption) (by decide) (c_spellsNumber (w := apM c s) (by show s.2 + 1 < 110; omega)) ?_
            refine k_iinc (pc' := 73) (v := nI (j + 1)) dX10_spell_70 rfl (nI_inc _) (Nat.le_of_ble_eq_true rfl) rfl ?_
            refine k_goto (tgt := 35) dX10_spell_73 rfl ?_
            rw [hc]
            exact ihm (j + 1) (wM1 (a 85) i j s) (by omega) (by omega) he2
          by_cases hj0 : j = 0
          · refine k_iload_n (pc' := 36) dX10_spell_35 rfl ?_
            refine k_iload_n (pc' := 37) dX10_spell_36 rfl ?_
            refine k_icmp_ge (tgt := 76) (pc' := 40) dX10_spell_37 rfl (fun zz_ => absurd zz_ (nI_ge (by omega) (by omega))) (fun _ => ?_)
            refine k_aload_n (pc' := 41) dX10_spell_40 rfl ?_
            refine k_iload_n (pc' := 42) dX10_spell_41 rfl ?_
            refine k_if_ne (tgt := 50) (pc' := 45) dX10_spell_42 rfl (fun zz_ => absurd (by rw [hj0]; rfl) zz_) (fun _ => ?_)
            refine k_bipush (pc' := 47) (v := nI 59) dX10_spell_45 rfl ?_
            refine k_goto (tgt := 52) dX10_spell_47 rfl ?_
            exact rest (nI 59) (by rw [if_pos hj0])
          · refine k_iload_n (pc' := 36) dX10_spell_35 rfl ?_
            refine k_iload_n (pc' := 37) dX10_spell_36 rfl ?_
            refine k_icmp_ge (tgt := 76) (pc' := 40) dX10_spell_37 rfl (fun zz_ => absurd zz_ (nI_ge (by omega) (by omega))) (fun _ => ?_)
            refine k_aload_n (pc' := 41) dX10_spell_40 rfl ?_
            refine k_iload_n (pc' := 42) dX10_spell_41 rfl ?_
            refine k_if_ne (tgt := 50) (pc' := 45) dX10_spell_42 rfl (fun _ => ?_) (fun zz_ => absurd zz_ (nI_ne0 (by omega) (by omega)))
            refine k_bipush (pc' := 52) (v := nI 44) dX10_spell_50 rfl ?_
            exact rest (nI 44) (by rw [if_neg hj0])
      exact inner i 0 s (by omega) (by omega) hw2
  exact outer (N - 1) 1 (apM (nI (48 + N)) (a 103, 0)) (by omega) (Nat.le_refl 1) (Nat.le_refl 1) rfl none
theorem m_hold (hN : 2 ≤ N) (hN6 : N ≤ 6) {x : Int32} : ConP G mX10_hold 3 [.ref (adr G 84), .int x] (putM G σ N D T z a tb) (fun v σ' => (¬ (0 ≤ x.toInt ∧ x.toInt ≤ 5) ∧ rI (-1) (putM G σ N D T z a tb) v σ') ∨ ∃ h, x = nI h ∧ h < 6 ∧ rI (nI N) (putM G σ N D T z (va_up (va_up (va_up a 91 (upd (a 91) h (nI 1))) 92 (upd (a 92) h (nI N))) 93 (mHo N h (a 85) (a 93))) tb) v σ') := by
  refine ConP.of rfl (Nat.le_of_ble_eq_true rfl) ?_
  refine k_iload_n (pc' := 1) dX10_hold_0 rfl ?_
  refine p_sI (ν := mX10_isHolder) (pc' := 4) dX10_hold_1 ml_RX10_176 mo_X10_isHolder ms_X10_isHolder (Nat.le_of_ble_eq_true rfl) rfl rfl (Nat.le_of_ble_eq_true rfl) (by decide) (c_mIsHolder) ?_
  refine k_if_ne (tgt := 9) (pc' := 7) dX10_hold_4 rfl (fun c_4 => ?_) (fun c_4 => ?_)
  rotate_left
  · rw [bI_eq] at c_4
    refine k_iconst (pc' := 8) (v := -1) dX10_hold_7 rfl ?_
    refine p_ireturn dX10_hold_8 rfl ?_
    exact Or.inl ⟨c_4, rfl, rfl⟩
  rw [bI_ne] at c_4
  obtain ⟨h, hh, hx⟩ := nI_in0 (x := x) (n := 6) (by omega) (by omega) (by decide)
  subst hx
  refine k_aload_n (pc' := 10) dX10_hold_9 rfl ?_
  refine p_get (pc' := 13) clX10 (Nat.le_of_ble_eq_true rfl) fl_RX10_34 dX10_hold_10 (by first | assumption | decide | omega) (by first | rfl | assumption) rfl ?_
  refine k_iload_n (pc' := 14) dX10_hold_13 rfl ?_
  refine k_iconst (pc' := 15) (v := nI 1) dX10_hold_14 rfl ?_
  refine p_iastN (pc' := 16) dX10_hold_15 (by first | assumption | decide | omega) (by first | rfl | assumption) (by first | decide | omega) (by first | omega | (simp only [mL85, mL86, mL87, mL88, mL89, mL90, mL91, mL92, mL93, mL94, mL95, mL96, mL97, mL98, mL100, mL101, mL102, mL103]; omega)) (by exact pMa (by decide)) ?_
  refine k_aload_n (pc' := 17) dX10_hold_16 rfl ?_
  refine p_get (pc' := 20) clX10 (Nat.le_of_ble_eq_true rfl) fl_RX10_37 dX10_hold_17 (by first | assumption | decide | omega) (by first | rfl | assumption) rfl ?_
  refine k_iload_n (pc' := 21) dX10_hold_20 rfl ?_
  refine k_aload_n (pc' := 22) dX10_hold_21 rfl ?_
  refine p_get (pc' := 25) clX10 (Nat.le_of_ble_eq_true rfl) fl_RX10_9 dX10_hold_22 (by first | assumption | decide | omega) (by first | rfl | assumption) rfl ?_
  refine p_iastN (pc' := 26) dX10_hold_25 (by first | assumption | decide | omega) (by first | rfl | assumption) (by first | decide | omega) (by first | omega | (simp only [mL85, mL86, mL87, mL88, mL89, mL90, mL91, mL92, mL93, mL94, mL95, mL96, mL97, mL98, mL100, mL101, mL102, mL103]; omega)) (by exact pMa (by decide)) ?_
  refine k_iconst (pc' := 27) (v := nI 0) dX10_hold_26 rfl ?_
  refine k_istore_n (pc' := 28) dX10_hold_27 (Nat.le_of_ble_eq_true rfl) rfl ?_
  refine k_iconst (pc' := 29) (v := nI 0) dX10_hold_28 rfl ?_
  refine k_istore_n (pc' := 30) dX10_hold_29 (Nat.le_of_ble_eq_true rfl) rfl ?_
  generalize hQ : (fun v σ' => (¬ (0 ≤ (nI h).toInt ∧ (nI h).toInt ≤ 5) ∧ rI (-1) (putM G σ N D T z a tb) v σ') ∨ ∃ h', nI h = nI h' ∧ h' < 6 ∧ rI (nI N) (putM G σ N D T z (va_up (va_up (va_up a 91 (upd (a 91) h' (nI 1))) 92 (upd (a 92) h' (nI N))) 93 (mHo N h' (a 85) (a 93))) tb) v σ') = Qf
  generalize hA : va_up (va_up a 91 (upd (a 91) h (nI 1))) 92 (upd (a 92) h (nI N)) = A
  have key := loopU (fun i c => ∀ y, OkP G mX10_hold 3 Qf 30 [some (.ref (adr G 84)), some (.int (nI h)), some (.int (nI (pI N i (i + 1)))), some (.int (nI i)), y] [] (putM G σ N D T z (va_up A 93 c) tb)) (mHo2 N h (a 85)) N 0 N (a 93) (by omega) ?_ ?_ none
  · rw [show pI N 0 (0 + 1) = 0 from pI_00 N (by omega), show va_up A 93 (a 93) = A from up_id (by rw [← hA]; rfl)] at key
    rw [← hA] at key
    exact key
  · intro i c _ hi ih y
    refine k_iload_n (pc' := 31) dX10_hold_30 rfl ?_
    refine k_aload_n (pc' := 32) dX10_hold_31 rfl ?_
    refine p_get (pc' := 35) clX10 (Nat.le_of_ble_eq_true rfl) fl_RX10_9 dX10_hold_32 (by first | assumption | decide | omega) (by first | rfl | assumption) rfl ?_
    refine k_icmp_ge (tgt := 90) (pc' := 38) dX10_hold_35 rfl (fun zz_ => absurd zz_ (nI_ge (by omega) (by omega))) (fun _ => ?_)
    refine k_iload_n (pc' := 39) dX10_hold_38 rfl ?_
    refine k_iconst (pc' := 40) (v := nI 1) dX10_hold_39 rfl ?_
    refine k_iadd (pc' := 41) dX10_hold_40 (by first | exact nI_add _ _ | rfl) ?_
    refine k_istore (pc' := 43) dX10_hold_41 (Nat.le_of_ble_eq_true rfl) rfl ?_
    refine loopU (fun j c => OkP G mX10_hold 3 Qf 43 [some (.ref (adr G 84)), some (.int (nI h)), some (.int (nI (pI N i j))), some (.int (nI i)), some (.int (nI j))] [] (putM G σ N D T z (va_up A 93 c) tb)) (mHo1 N h (a 85) i) N (i + 1) (N - (i + 1)) c (by omega) ?_ ?_
    · intro j c hij hj ih2
      have hlt := pI_lt hN6 hi hj (by omega)
      have hup := pI_up0 N (by omega) i hi j hj (by omega)
      have hfar : A 85 = a 85 := by rw [← hA]; rfl
      refine k_iload (pc' := 45) dX10_hold_43 rfl ?_
      refine k_aload_n (pc' := 46) dX10_hold_45 rfl ?_
      refine p_get (pc' := 49) clX10 (Nat.le_of_ble_eq_true rfl) fl_RX10_9 dX10_hold_46 (by first | assumption | decide | omega) (by first | rfl | assumption) rfl ?_
      refine k_icmp_ge (tgt := 84) (pc' := 52) dX10_hold_49 rfl (fun zz_ => absurd zz_ (nI_ge (by omega) (by omega))) (fun _ => ?_)
      refine k_aload_n (pc' := 53) dX10_hold_52 rfl ?_
      refine p_get (pc' := 56) clX10 (Nat.le_of_ble_eq_true rfl) fl_RX10_40 dX10_hold_53 (by first | assumption | decide | omega) (by first | rfl | assumption) rfl ?_
      refine k_bipush (pc' := 58) (v := nI 20) dX10_hold_56 rfl ?_
      refine k_iload_n (pc' := 59) dX10_hold_58 rfl ?_
      refine k_imul (pc' := 60) dX10_hold_59 (by first | exact pk_mul _ _ | rfl) ?_
      refine k_iload_n (pc' := 61) dX10_hold_60 rfl ?_
      refine k_iadd (pc' := 62) dX10_hold_61 (by first | exact nI_add _ _ | rfl) ?_
      refine k_aload_n (pc' := 63) dX10_hold_62 rfl ?_
      refine p_get (pc' := 66) clX10 (Nat.le_of_ble_eq_true rfl) fl_RX10_15 dX10_hold_63 (by first | assumption | decide | omega) (by first | rfl | assumption) rfl ?_
      refine k_bipush (pc' := 68) (v := nI 6) dX10_hold_66 rfl ?_
      refine k_iload_n (pc' := 69) dX10_hold_68 rfl ?_
      refine k_imul (pc' := 70) dX10_hold_69 (by first | exact pk_mul _ _ | rfl) ?_
      refine k_iload (pc' := 72) dX10_hold_70 rfl ?_
      refine k_iadd (pc' := 73) dX10_hold_72 (by first | exact nI_add _ _ | rfl) ?_
      refine p_ialdN (pc' := 74) dX10_hold_73 (by decide) rfl (by decide) (by simp only [mL85]; omega) ?_
      rw [show (va_up A 93 c) 85 = a 85 from hfar]
      refine p_iastN (pc' := 75) (σ1 := putM G σ N D T z (va_up A 93 (mHo1 N h (a 85) i j c)) tb) dX10_hold_74 (by first | assumption | decide | omega) (by first | rfl | assumption) (by first | decide | omega) (by first | omega | (simp only [mL85, mL86, mL87, mL88, mL89, mL90, mL91, mL92, mL93, mL94, mL95, mL96, mL97, mL98, mL100, mL101, mL102, mL103]; omega)) (by exact (by rw [pMa (by decide), up_up]; rfl)) ?_
      refine k_iinc (pc' := 78) (v := nI (pI N i (j + 1))) dX10_hold_75 rfl (by rw [← hup]; exact nI_inc _) (Nat.le_of_ble_eq_true rfl) rfl ?_
      refine k_iinc (pc' := 81) (v := nI (j + 1)) dX10_hold_78 rfl (nI_inc _) (Nat.le_of_ble_eq_true rfl) rfl ?_
      refine k_goto (tgt := 43) dX10_hold_81 rfl ?_
      exact ih2
    · rw [pI_next0 N (by omega) i hi]
      refine k_iload (pc' := 45) dX10_hold_43 rfl ?_
      refine k_aload_n (pc' := 46) dX10_hold_45 rfl ?_
      refine p_get (pc' := 49) clX10 (Nat.le_of_ble_eq_true rfl) fl_RX10_9 dX10_hold_46 (by first | assumption | decide | omega) (by first | rfl | assumption) rfl ?_
      refine k_icmp_ge (tgt := 84) (pc' := 52) dX10_hold_49 rfl (fun _ => ?_) (fun zz_ => absurd (nI_le (by omega) (by omega)) zz_)
      refine k_iinc (pc' := 87) (v := nI (i + 1)) dX10_hold_84 rfl (nI_inc _) (Nat.le_of_ble_eq_true rfl) rfl ?_
      refine k_goto (tgt := 30) dX10_hold_87 rfl ?_
      exact ih _
  · intro y
    refine k_iload_n (pc' := 31) dX10_hold_30 rfl ?_
    refine k_aload_n (pc' := 32) dX10_hold_31 rfl ?_
    refine p_get (pc' := 35) clX10 (Nat.le_of_ble_eq_true rfl) fl_RX10_9 dX10_hold_32 (by first | assumption | decide | omega) (by first | rfl | assumption) rfl ?_
    refine k_icmp_ge (tgt := 90) (pc' := 38) dX10_hold_35 rfl (fun _ => ?_) (fun zz_ => absurd (nI_le (by omega) (by omega)) zz_)
    refine k_aload_n (pc' := 91) dX10_hold_90 rfl ?_
    refine p_get (pc' := 94) clX10 (Nat.le_of_ble_eq_true rfl) fl_RX10_9 dX10_hold_91 (by first | assumption | decide | omega) (by first | rfl | assumption) rfl ?_
    refine p_ireturn dX10_hold_94 rfl ?_
    rw [← hQ]
    exact Or.inr ⟨h, rfl, hh, rfl, by rw [← hA]; rfl⟩
theorem m_lose {kd sz : Nat → Nat} (ho : hoOk kd sz a) {x : Int32} : ConP G mX10_lose 3 [.ref (adr G 84), .int x] (putM G σ N D T z a tb) (fun v σ' => (¬ (0 ≤ x.toInt ∧ x.toInt ≤ 5) ∧ rI (-1) (putM G σ N D T z a tb) v σ') ∨ ∃ h, x = nI h ∧ h < 6 ∧ rI (nI (kd h)) (putM G σ N D T z (va_up a 91 (upd (a 91) h (nI 0))) tb) v σ') := by
  refine ConP.of rfl (Nat.le_of_ble_eq_true rfl) ?_
  refine k_iload_n (pc' := 1) dX10_lose_0 rfl ?_
  refine p_sI (ν := mX10_isHolder) (pc' := 4) dX10_lose_1 ml_RX10_176 mo_X10_isHolder ms_X10_isHolder (Nat.le_of_ble_eq_true rfl) rfl rfl (Nat.le_of_ble_eq_true rfl) (by decide) (c_mIsHolder) ?_
  refine k_if_ne (tgt := 9) (pc' := 7) dX10_lose_4 rfl (fun c_4 => ?_) (fun c_4 => ?_)
  rotate_left
  · rw [bI_eq] at c_4
    refine k_iconst (pc' := 8) (v := -1) dX10_lose_7 rfl ?_
    refine p_ireturn dX10_lose_8 rfl ?_
    exact Or.inl ⟨c_4, rfl, rfl⟩
  rw [bI_ne] at c_4
  obtain ⟨h, hh, hx⟩ := nI_in0 (x := x) (n := 6) (by omega) (by omega) (by decide)
  subst hx
  refine k_aload_n (pc' := 10) dX10_lose_9 rfl ?_
  refine p_get (pc' := 13) clX10 (Nat.le_of_ble_eq_true rfl) fl_RX10_34 dX10_lose_10 (by first | assumption | decide | omega) (by first | rfl | assumption) rfl ?_
  refine k_iload_n (pc' := 14) dX10_lose_13 rfl ?_
  refine p_ialdN (pc' := 15) dX10_lose_14 (by first | assumption | decide | omega) (by first | rfl | assumption) (by first | decide | omega) (by first | omega | (simp only [mL85, mL86, mL87, mL88, mL89, mL90, mL91, mL92, mL93, mL94, mL95, mL96, mL97, mL98, mL100, mL101, mL102, mL103]; omega)) ?_
  refine k_istore_n (pc' := 16) dX10_lose_15 (Nat.le_of_ble_eq_true rfl) rfl ?_
  refine k_aload_n (pc' := 17) dX10_lose_16 rfl ?_
  refine p_get (pc' := 20) clX10 (Nat.le_of_ble_eq_true rfl) fl_RX10_34 dX10_lose_17 (by first | assumption | decide | omega) (by first | rfl | assumption) rfl ?_
  refine k_iload_n (pc' := 21) dX10_lose_20 rfl ?_
  refine k_iconst (pc' := 22) (v := nI 0) dX10_lose_21 rfl ?_
  refine p_iastN (pc' := 23) dX10_lose_22 (by first | assumption | decide | omega) (by first | rfl | assumption) (by first | decide | omega) (by first | omega | (simp only [mL85, mL86, mL87, mL88, mL89, mL90, mL91, mL92, mL93, mL94, mL95, mL96, mL97, mL98, mL100, mL101, mL102, mL103]; omega)) (by exact pMa (by decide)) ?_
  refine k_iload_n (pc' := 24) dX10_lose_23 rfl ?_
  refine p_ireturn dX10_lose_24 rfl ?_
  exact Or.inr ⟨h, rfl, hh, by rw [(ho h hh).1], rfl⟩
/-- the numbers of a holder -/
def hoN (kd sz : Nat → Nat) (h : Nat) : Nat := if kd h = 1 then pN (sz h) else sz h
theorem m_taken {kd sz : Nat → Nat} (ho : hoOk kd sz a) {x y : Int32} : ConP G mX10_taken 3 [.ref (adr G 84), .int x, .int y] (putM G σ N D T z a tb) (rI (if (0 ≤ x.toInt ∧ x.toInt ≤ 5) ∧ (0 ≤ y.toInt ∧ y.toInt ≤ 2) then (if kd x.toInt.toNat = 0 then -11 else if kd x.toInt.toNat = 3 ∨ (y.toInt < 2 ∧ ¬ (kd x.toInt.toNat : Int) = y.toInt + 1) then -12 else if y = 2 then nI (sz x.toInt.toNat) else if y = 0 then wSum (pN (sz x.toInt.toNat)) (fun k => a 93 (20 * x.toInt.toNat + k)) else mWid (sz x.toInt.toNat) (fun k => a 93 (20 * x.toInt.toNat + k))) else -1) (putM G σ N D T z a tb)) := by
  refine ConP.of rfl (Nat.le_of_ble_eq_true rfl) ?_
  refine k_iload_n (pc' := 1) dX10_taken_0 rfl ?_
  refine p_sI (ν := mX10_isHolder) (pc' := 4) dX10_taken_1 ml_RX10_176 mo_X10_isHolder ms_X10_isHolder (Nat.le_of_ble_eq_true rfl) rfl rfl (Nat.le_of_ble_eq_true rfl) (by decide) (c_mIsHolder) ?_
  refine k_if_eq (tgt := 19) (pc' := 7) dX10_taken_4 rfl (fun c_4 => ?_) (fun c_4 => ?_)
  · rw [bI_eq] at c_4
    refine k_iconst (pc' := 20) (v := -1) dX10_taken_19 rfl ?_
    refine p_ireturn dX10_taken_20 rfl ?_
    exact ⟨by rw [if_neg (fun q => c_4 q.1)], rfl⟩
  rw [bI_ne] at c_4
  refine k_iload_n (pc' := 8) dX10_taken_7 rfl ?_
  refine k_i2l (pc' := 9) dX10_taken_8 rfl ?_
  refine k_lconst (pc' := 10) (v := 0) dX10_taken_9 rfl ?_
  refine k_ldc2 (pc' := 13)  dX10_taken_10 cl_RX10_103 ?_
  refine p_sI (ν := mX10_in) (pc' := 16) dX10_taken_13 ml_RX10_77 mo_X10_in ms_X10_in (Nat.le_of_ble_eq_true rfl) rfl rfl (Nat.le_of_ble_eq_true rfl) (by decide) (c_in) ?_
  refine k_if_ne (tgt := 21) (pc' := 19) dX10_taken_16 rfl (fun c_16 => ?_) (fun c_16 => ?_)
  rotate_left
  · rw [bI_eq, in_w (p := 0) (q := 2) rfl rfl] at c_16
    refine k_iconst (pc' := 20) (v := -1) dX10_taken_19 rfl ?_
    refine p_ireturn dX10_taken_20 rfl ?_
    exact ⟨by rw [if_neg (fun q => c_16 q.2)], rfl⟩
  rw [bI_ne, in_w (p := 0) (q := 2) rfl rfl] at c_16
  rw [if_pos ⟨c_4, c_16⟩]
  obtain ⟨h, hh, hx⟩ := nI_in0 (x := x) (n := 6) (by omega) (by omega) (by decide)
  obtain ⟨k, hk, hy⟩ := nI_in0 (x := y) (n := 3) (by omega) (by omega) (by decide)
  subst hx; subst hy
  rw [nI_e (show h < 2 ^ 31 by omega), nI_e (show k < 2 ^ 31 by omega), show ((h : Int)).toNat = h from rfl]
  obtain ⟨hk1, hk3, hs1, hs2, hs3⟩ := ho h hh
  by_cases h0 : kd h = 0
  · refine k_aload_n (pc' := 22) dX10_taken_21 rfl ?_
    refine p_get (pc' := 25) clX10 (Nat.le_of_ble_eq_true rfl) fl_RX10_34 dX10_taken_22 (by first | assumption | decide | omega) (by first | rfl | assumption) rfl ?_
    refine k_iload_n (pc' := 26) dX10_taken_25 rfl ?_
    refine p_ialdN (pc' := 27) dX10_taken_26 (by first | assumption | decide | omega) (by first | rfl | assumption) (by first | decide | omega) (by first | omega | (simp only [mL85, mL86, mL87, mL88, mL89, mL90, mL91, mL92, mL93, mL94, mL95, mL96, mL97, mL98, mL100, mL101, mL102, mL103]; omega)) ?_
    refine k_if_ne (tgt := 33) (pc' := 30) dX10_taken_27 rfl (fun zz_ => absurd (by rw [hk1, h0]; rfl) zz_) (fun _ => ?_)
    refine k_bipush (pc' := 32) (v := -11) dX10_taken_30 rfl ?_
    refine p_ireturn dX10_taken_32 rfl ?_
    exact ⟨by rw [if_pos h0], rfl⟩
  have hk0 : ¬ a 91 h = 0 := by rw [hk1]; exact nI_ne0 (by omega) (by omega)
  rw [if_neg h0]
  by_cases h3 : kd h = 3
  · refine k_aload_n (pc' := 22) dX10_taken_21 rfl ?_
    refine p_get (pc' := 25) clX10 (Nat.le_of_ble_eq_true rfl) fl_RX10_34 dX10_taken_22 (by first | assumption | decide | omega) (by first | rfl | assumption) rfl ?_
    refine k_iload_n (pc' := 26) dX10_taken_25 rfl ?_
    refine p_ialdN (pc' := 27) dX10_taken_26 (by first | assumption | decide | omega) (by first | rfl | assumption) (by first | decide | omega) (by first | omega | (simp only [mL85, mL86, mL87, mL88, mL89, mL90, mL91, mL92, mL93, mL94, mL95, mL96, mL97, mL98, mL100, mL101, mL102, mL103]; omega)) ?_
    refine k_if_ne (tgt := 33) (pc' := 30) dX10_taken_27 rfl (fun _ => ?_) (fun zz_ => absurd zz_ hk0)
    refine k_aload_n (pc' := 34) dX10_taken_33 rfl ?_
    refine p_get (pc' := 37) clX10 (Nat.le_of_ble_eq_true rfl) fl_RX10_34 dX10_taken_34 (by first | assumption | decide | omega) (by first | rfl | assumption) rfl ?_
    refine k_iload_n (pc' := 38) dX10_taken_37 rfl ?_
    refine p_ialdN (pc' := 39) dX10_taken_38 (by first | assumption | decide | omega) (by first | rfl | assumption) (by first | decide | omega) (by first | omega | (simp only [mL85, mL86, mL87, mL88, mL89, mL90, mL91, mL92, mL93, mL94, mL95, mL96, mL97, mL98, mL100, mL101, mL102, mL103]; omega)) ?_
    refine k_iconst (pc' := 40) (v := nI 3) dX10_taken_39 rfl ?_
    refine k_icmp_eq (tgt := 60) (pc' := 43) dX10_taken_40 rfl (fun _ => ?_) (fun zz_ => absurd (by rw [hk1, h3]) zz_)
    refine k_bipush (pc' := 62) (v := -12) dX10_taken_60 rfl ?_
    refine p_ireturn dX10_taken_62 rfl ?_
    exact ⟨by rw [if_pos (Or.inl h3)], rfl⟩
  have hk3' : ¬ a 91 h = nI 3 := by rw [hk1, nI_eq (by omega) (by decide)]; exact h3
  by_cases hk2 : k = 2
  · subst hk2
    refine k_aload_n (pc' := 22) dX10_taken_21 rfl ?_
    refine p_get (pc' := 25) clX10 (Nat.le_of_ble_eq_true rfl) fl_RX10_34 dX10_taken_22 (by first | assumption | decide | omega) (by first | rfl | assumption) rfl ?_
    refine k_iload_n (pc' := 26) dX10_taken_25 rfl ?_
    refine p_ialdN (pc' := 27) dX10_taken_26 (by first | assumption | decide | omega) (by first | rfl | assumption) (by first | decide | omega) (by first | omega | (simp only [mL85, mL86, mL87, mL88, mL89, mL90, mL91, mL92, mL93, mL94, mL95, mL96, mL97, mL98, mL100, mL101, mL102, mL103]; omega)) ?_
    refine k_if_ne (tgt := 33) (pc' := 30) dX10_taken_27 rfl (fun _ => ?_) (fun zz_ => absurd zz_ hk0)
    refine k_aload_n (pc' := 34) dX10_taken_33 rfl ?_
    refine p_get (pc' := 37) clX10 (Nat.le_of_ble_eq_true rfl) fl_RX10_34 dX10_taken_34 (by first | assumption | decide | omega) (by first | rfl | assumption) rfl ?_
    refine k_iload_n (pc' := 38) dX10_taken_37 rfl ?_
    refine p_ialdN (pc' := 39) dX10_taken_38 (by first | assumption | decide | omega) (by first | rfl | assumption) (by first | decide | omega) (by first | omega | (simp only [mL85, mL86, mL87, mL88, mL89, mL90, mL91, mL92, mL93, mL94, mL95, mL96, mL97, mL98, mL100, mL101, mL102, mL103]; omega)) ?_
    refine k_iconst (pc' := 40) (v := nI 3) dX10_taken_39 rfl ?_
    refine k_icmp_eq (tgt := 60) (pc' := 43) dX10_taken_40 rfl (fun zz_ => absurd zz_ hk3') (fun _ => ?_)
    refine k_iload_n (pc' := 44) dX10_taken_43 rfl ?_
    refine k_iconst (pc' := 45) (v := nI 2) dX10_taken_44 rfl ?_
    refine k_icmp_ge (tgt := 63) (pc' := 48) dX10_taken_45 rfl (fun _ => ?_) (fun zz_ => absurd (by decide) zz_)
    refine k_iload_n (pc' := 64) dX10_taken_63 rfl ?_
    refine k_iconst (pc' := 65) (v := nI 2) dX10_taken_64 rfl ?_
    refine k_icmp_ne (tgt := 75) (pc' := 68) dX10_taken_65 rfl (fun zz_ => absurd rfl zz_) (fun _ => ?_)
    refine k_aload_n (pc' := 69) dX10_taken_68 rfl ?_
    refine p_get (pc' := 72) clX10 (Nat.le_of_ble_eq_true rfl) fl_RX10_37 dX10_taken_69 (by first | assumption | decide | omega) (by first | rfl | assumption) rfl ?_
    refine k_iload_n (pc' := 73) dX10_taken_72 rfl ?_
    refine p_ialdN (pc' := 74) dX10_taken_73 (by first | assumption | decide | omega) (by first | rfl | assumption) (by first | decide | omega) (by first | omega | (simp only [mL85, mL86, mL87, mL88, mL89, mL90, mL91, mL92, mL93, mL94, mL95, mL96, mL97, mL98, mL100, mL101, mL102, mL103]; omega)) ?_
    refine p_ireturn dX10_taken_74 rfl ?_
    exact ⟨by rw [if_neg (by omega), if_pos (show nI 2 = 2 from rfl), hs1], rfl⟩
  by_cases hkk : kd h = k + 1
  rotate_left
  · refine k_aload_n (pc' := 22) dX10_taken_21 rfl ?_
    refine p_get (pc' := 25) clX10 (Nat.le_of_ble_eq_true rfl) fl_RX10_34 dX10_taken_22 (by first | assumption | decide | omega) (by first | rfl | assumption) rfl ?_
    refine k_iload_n (pc' := 26) dX10_taken_25 rfl ?_
    refine p_ialdN (pc' := 27) dX10_taken_26 (by first | assumption | decide | omega) (by first | rfl | assumption) (by first | decide | omega) (by first | omega | (simp only [mL85, mL86, mL87, mL88, mL89, mL90, mL91, mL92, mL93, mL94, mL95, mL96, mL97, mL98, mL100, mL101, mL102, mL103]; omega)) ?_
    refine k_if_ne (tgt := 33) (pc' := 30) dX10_taken_27 rfl (fun _ => ?_) (fun zz_ => absurd zz_ hk0)
    refine k_aload_n (pc' := 34) dX10_taken_33 rfl ?_
    refine p_get (pc' := 37) clX10 (Nat.le_of_ble_eq_true rfl) fl_RX10_34 dX10_taken_34 (by first | assumption | decide | omega) (by first | rfl | assumption) rfl ?_
    refine k_iload_n (pc' := 38) dX10_taken_37 rfl ?_
    refine p_ialdN (pc' := 39) dX10_taken_38 (by first | assumption | decide | omega) (by first | rfl | assumption) (by first | decide | omega) (by first | omega | (simp only [mL85, mL86, mL87, mL88, mL89, mL90, mL91, mL92, mL93, mL94, mL95, mL96, mL97, mL98, mL100, mL101, mL102, mL103]; omega)) ?_
    refine k_iconst (pc' := 40) (v := nI 3) dX10_taken_39 rfl ?_
    refine k_icmp_eq (tgt := 60) (pc' := 43) dX10_taken_40 rfl (fun zz_ => absurd zz_ hk3') (fun _ => ?_)
    refine k_iload_n (pc' := 44) dX10_taken_43 rfl ?_
    refine k_iconst (pc' := 45) (v := nI 2) dX10_taken_44 rfl ?_
    refine k_icmp_ge (tgt := 63) (pc' := 48) dX10_taken_45 rfl (fun zz_ => absurd zz_ (nI_ge (by omega) (by omega))) (fun _ => ?_)
    refine k_aload_n (pc' := 49) dX10_taken_48 rfl ?_
    refine p_get (pc' := 52) clX10 (Nat.le_of_ble_eq_true rfl) fl_RX10_34 dX10_taken_49 (by first | assumption | decide | omega) (by first | rfl | assumption) rfl ?_
    refine k_iload_n (pc' := 53) dX10_taken_52 rfl ?_
    refine p_ialdN (pc' := 54) dX10_taken_53 (by first | assumption | decide | omega) (by first | rfl | assumption) (by first | decide | omega) (by first | omega | (simp only [mL85, mL86, mL87, mL88, mL89, mL90, mL91, mL92, mL93, mL94, mL95, mL96, mL97, mL98, mL100, mL101, mL102, mL103]; omega)) ?_
    refine k_iload_n (pc' := 55) dX10_taken_54 rfl ?_
    refine k_iconst (pc' := 56) (v := nI 1) dX10_taken_55 rfl ?_
    refine k_iadd (pc' := 57) dX10_taken_56 (by first | exact nI_add _ _ | rfl) ?_
    refine k_icmp_eq (tgt := 63) (pc' := 60) dX10_taken_57 rfl (fun zz_ => absurd zz_ (by rw [hk1, nI_eq (by omega) (by omega)]; exact hkk)) (fun _ => ?_)
    refine k_bipush (pc' := 62) (v := -12) dX10_taken_60 rfl ?_
    refine p_ireturn dX10_taken_62 rfl ?_
    exact ⟨by rw [if_pos (Or.inr (by omega))], rfl⟩
  rw [if_neg (by omega), if_neg (by rw [show (2 : Int32) = nI 2 from rfl, nI_eq (by omega) (by decide)]; exact hk2)]
  refine k_aload_n (pc' := 22) dX10_taken_21 rfl ?_
  refine p_get (pc' := 25) clX10 (Nat.le_of_ble_eq_true rfl) fl_RX10_34 dX10_taken_22 (by first | assumption | decide | omega) (by first | rfl | assumption) rfl ?_
  refine k_iload_n (pc' := 26) dX10_taken_25 rfl ?_
  refine p_ialdN (pc' := 27) dX10_taken_26 (by first | assumption | decide | omega) (by first | rfl | assumption) (by first | decide | omega) (by first | omega | (simp only [mL85, mL86, mL87, mL88, mL89, mL90, mL91, mL92, mL93, mL94, mL95, mL96, mL97, mL98, mL100, mL101, mL102, mL103]; omega)) ?_
  refine k_if_ne (tgt := 33) (pc' := 30) dX10_taken_27 rfl (fun _ => ?_) (fun zz_ => absurd zz_ hk0)
  refine k_aload_n (pc' := 34) dX10_taken_33 rfl ?_
  refine p_get (pc' := 37) clX10 (Nat.le_of_ble_eq_true rfl) fl_RX10_34 dX10_taken_34 (by first | assumption | decide | omega) (by first | rfl | assumption) rfl ?_
  refine k_iload_n (pc' := 38) dX10_taken_37 rfl ?_
  refine p_ialdN (pc' := 39) dX10_taken_38 (by first | assumption | decide | omega) (by first | rfl | assumption) (by first | decide | omega) (by first | omega | (simp only [mL85, mL86, mL87, mL88, mL89, mL90, mL91, mL92, mL93, mL94, mL95, mL96, mL97, mL98, mL100, mL101, mL102, mL103]; omega)) ?_
  refine k_iconst (pc' := 40) (v := nI 3) dX10_taken_39 rfl ?_
  refine k_icmp_eq (tgt := 60) (pc' := 43) dX10_taken_40 rfl (fun zz_ => absurd zz_ hk3') (fun _ => ?_)
  refine k_iload_n (pc' := 44) dX10_taken_43 rfl ?_
  refine k_iconst (pc' := 45) (v := nI 2) dX10_taken_44 rfl ?_
  refine k_icmp_ge (tgt := 63) (pc' := 48) dX10_taken_45 rfl (fun zz_ => absurd zz_ (nI_ge (by omega) (by omega))) (fun _ => ?_)
  refine k_aload_n (pc' := 49) dX10_taken_48 rfl ?_
  refine p_get (pc' := 52) clX10 (Nat.le_of_ble_eq_true rfl) fl_RX10_34 dX10_taken_49 (by first | assumption | decide | omega) (by first | rfl | assumption) rfl ?_
  refine k_iload_n (pc' := 53) dX10_taken_52 rfl ?_
  refine p_ialdN (pc' := 54) dX10_taken_53 (by first | assumption | decide | omega) (by first | rfl | assumption) (by first | decide | omega) (by first | omega | (simp only [mL85, mL86, mL87, mL88, mL89, mL90, mL91, mL92, mL93, mL94, mL95, mL96, mL97, mL98, mL100, mL101, mL102, mL103]; omega)) ?_
  refine k_iload_n (pc' := 55) dX10_taken_54 rfl ?_
  refine k_iconst (pc' := 56) (v := nI 1) dX10_taken_55 rfl ?_
  refine k_iadd (pc' := 57) dX10_taken_56 (by first | exact nI_add _ _ | rfl) ?_
  refine k_icmp_eq (tgt := 63) (pc' := 60) dX10_taken_57 rfl (fun _ => ?_) (fun zz_ => absurd (by rw [hk1, hkk]) zz_)
  refine k_iload_n (pc' := 64) dX10_taken_63 rfl ?_
  refine k_iconst (pc' := 65) (v := nI 2) dX10_taken_64 rfl ?_
  refine k_icmp_ne (tgt := 75) (pc' := 68) dX10_taken_65 rfl (fun _ => ?_) (fun zz_ => absurd zz_ (by rw [nI_eq (by omega) (by decide)]; exact hk2))
  refine k_iconst (pc' := 76) (v := nI 0) dX10_taken_75 rfl ?_
  refine k_istore_n (pc' := 77) dX10_taken_76 (Nat.le_of_ble_eq_true rfl) rfl ?_
  refine k_iconst (pc' := 78) (v := nI 0) dX10_taken_77 rfl ?_
  refine k_istore (pc' := 80) dX10_taken_78 (Nat.le_of_ble_eq_true rfl) rfl ?_
  have loop : ∀ M : Nat, M ≤ 20 → (∀ s w : Int32, s = wSum M (fun k => a 93 (20 * h + k)) → w = mWid M (fun k => a 93 (20 * h + k)) → OkP G mX10_taken 3 (rI (if nI k = 0 then wSum (pN (sz h)) (fun k => a 93 (20 * h + k)) else mWid (sz h) (fun k => a 93 (20 * h + k))) (putM G σ N D T z a tb)) 158 [some (.ref (adr G 84)), some (.int (nI h)), some (.int (nI k)), some (.int s), some (.int w), some (.int (nI M)), some (.int (nI M))] [] (putM G σ N D T z a tb)) → OkP G mX10_taken 3 (rI (if nI k = 0 then wSum (pN (sz h)) (fun k => a 93 (20 * h + k)) else mWid (sz h) (fun k => a 93 (20 * h + k))) (putM G σ N D T z a tb)) 102 [some (.ref (adr G 84)), some (.int (nI h)), some (.int (nI k)), some (.int (nI 0)), some (.int (nI 0)), none, none] [.int (nI M)] (putM G σ N D T z a tb) := by
    intro M hM hk9
    have e2 : ∀ n p (s w : Int32), upn n p (fun p (f : I2) => (f.1 + a 93 (20 * h + p), if f.2 < mOff (a 93 (20 * h + p)) (nI 0) then mOff (a 93 (20 * h + p)) (nI 0) else f.2)) (s, w) = (upn n p (fun p s => s + a 93 (20 * h + p)) s, upn n p (fun p s => if s < mOff (a 93 (20 * h + p)) (nI 0) then mOff (a 93 (20 * h + p)) (nI 0) else s) w) := by
      intro n
      induction n with
      | zero => intros; rfl
      | succ n ih => intro p s w; exact ih (p + 1) _ _
    refine k_istore (pc' := 104) dX10_taken_102 (Nat.le_of_ble_eq_true rfl) rfl ?_
    refine k_iconst (pc' := 105) (v := nI 0) dX10_taken_104 rfl ?_
    refine k_istore (pc' := 107) dX10_taken_105 (Nat.le_of_ble_eq_true rfl) rfl ?_
    refine loopU (fun p (f : I2) => OkP G mX10_taken 3 (rI (if nI k = 0 then wSum (pN (sz h)) (fun k => a 93 (20 * h + k)) else mWid (sz h) (fun k => a 93 (20 * h + k))) (putM G σ N D T z a tb)) 107 [some (.ref (adr G 84)), some (.int (nI h)), some (.int (nI k)), some (.int f.1), some (.int f.2), some (.int (nI M)), some (.int (nI p))] [] (putM G σ N D T z a tb)) (fun p (f : I2) => (f.1 + a 93 (20 * h + p), if f.2 < mOff (a 93 (20 * h + p)) (nI 0) then mOff (a 93 (20 * h + p)) (nI 0) else f.2)) M 0 M (nI 0, nI 0) (by omega) ?_ ?_
    · intro p f _ hp ih
      refine k_iload (pc' := 109) dX10_taken_107 rfl ?_
      refine k_iload (pc' := 111) dX10_taken_109 rfl ?_
      refine k_icmp_ge (tgt := 158) (pc' := 114) dX10_taken_111 rfl (fun zz_ => absurd zz_ (nI_ge (by omega) (by omega))) (fun _ => ?_)
      refine k_iload_n (pc' := 115) dX10_taken_114 rfl ?_
      refine k_aload_n (pc' := 116) dX10_taken_115 rfl ?_
      refine p_get (pc' := 119) clX10 (Nat.le_of_ble_eq_true rfl) fl_RX10_40 dX10_taken_116 (by first | assumption | decide | omega) (by first | rfl | assumption) rfl ?_
      refine k_bipush (pc' := 121) (v := nI 20) dX10_taken_119 rfl ?_
      refine k_iload_n (pc' := 122) dX10_taken_121 rfl ?_
      refine k_imul (pc' := 123) dX10_taken_122 (by first | exact pk_mul _ _ | rfl) ?_
      refine k_iload (pc' := 125) dX10_taken_123 rfl ?_
      refine k_iadd (pc' := 126) dX10_taken_125 (by first | exact nI_add _ _ | rfl) ?_
      refine p_ialdN (pc' := 127) dX10_taken_126 (by first | assumption | decide | omega) (by first | rfl | assumption) (by first | decide | omega) (by first | omega | (simp only [mL85, mL86, mL87, mL88, mL89, mL90, mL91, mL92, mL93, mL94, mL95, mL96, mL97, mL98, mL100, mL101, mL102, mL103]; omega)) ?_
      refine k_iadd (pc' := 128) (v := f.1 + a 93 (20 * h + p)) dX10_taken_127 rfl ?_
      refine k_istore_n (pc' := 129) dX10_taken_128 (Nat.le_of_ble_eq_true rfl) rfl ?_
      refine k_iload (pc' := 131) dX10_taken_129 rfl ?_
      refine k_aload_n (pc' := 132) dX10_taken_131 rfl ?_
      refine p_get (pc' := 135) clX10 (Nat.le_of_ble_eq_true rfl) fl_RX10_40 dX10_taken_132 (by first | assumption | decide | omega) (by first | rfl | assumption) rfl ?_
      refine k_bipush (pc' := 137) (v := nI 20) dX10_taken_135 rfl ?_
      refine k_iload_n (pc' := 138) dX10_taken_137 rfl ?_
      refine k_imul (pc' := 139) dX10_taken_138 (by first | exact pk_mul _ _ | rfl) ?_
      refine k_iload (pc' := 141) dX10_taken_139 rfl ?_
      refine k_iadd (pc' := 142) dX10_taken_141 (by first | exact nI_add _ _ | rfl) ?_
      refine p_ialdN (pc' := 143) dX10_taken_142 (by first | assumption | decide | omega) (by first | rfl | assumption) (by first | decide | omega) (by first | omega | (simp only [mL85, mL86, mL87, mL88, mL89, mL90, mL91, mL92, mL93, mL94, mL95, mL96, mL97, mL98, mL100, mL101, mL102, mL103]; omega)) ?_
      refine k_iconst (pc' := 144) (v := nI 0) dX10_taken_143 rfl ?_
      refine p_sI (ν := mX10_off) (pc' := 147) dX10_taken_144 ml_RX10_136 mo_X10_off ms_X10_off (Nat.le_of_ble_eq_true rfl) rfl rfl (Nat.le_of_ble_eq_true rfl) (by decide) (c_off) ?_
      refine p_max (pc' := 150) (v := (if f.2 < mOff (a 93 (20 * h + p)) (nI 0) then mOff (a 93 (20 * h + p)) (nI 0) else f.2)) dX10_taken_147 ml_RX10_148 (by decide) (Nat.le_of_ble_eq_true rfl) rfl ?_
      refine k_istore (pc' := 152) dX10_taken_150 (Nat.le_of_ble_eq_true rfl) rfl ?_
      refine k_iinc (pc' := 155) (v := nI (p + 1)) dX10_taken_152 rfl (nI_inc _) (Nat.le_of_ble_eq_true rfl) rfl ?_
      refine k_goto (tgt := 107) dX10_taken_155 rfl ?_
      exact ih
    · rw [e2]
      refine k_iload (pc' := 109) dX10_taken_107 rfl ?_
      refine k_iload (pc' := 111) dX10_taken_109 rfl ?_
      refine k_icmp_ge (tgt := 158) (pc' := 114) dX10_taken_111 rfl (fun _ => ?_) (fun zz_ => absurd (nI_le (by omega) (by omega)) zz_)
      exact hk9 _ _ rfl rfl
  by_cases hk0' : k = 0
  · subst hk0'
    have hb := hs3 (Or.inl (by omega))
    refine k_iload_n (pc' := 81) dX10_taken_80 rfl ?_
    refine k_if_ne (tgt := 96) (pc' := 84) dX10_taken_81 rfl (fun zz_ => absurd rfl zz_) (fun _ => ?_)
    refine k_aload_n (pc' := 85) dX10_taken_84 rfl ?_
    refine p_get (pc' := 88) clX10 (Nat.le_of_ble_eq_true rfl) fl_RX10_37 dX10_taken_85 (by first | assumption | decide | omega) (by first | rfl | assumption) rfl ?_
    refine k_iload_n (pc' := 89) dX10_taken_88 rfl ?_
    refine p_ialdN (pc' := 90) dX10_taken_89 (by decide) rfl (by decide) (by simp only [mL92]; omega) ?_
    rw [hs1]
    refine p_sI (ν := mX10_pairsOf) (pc' := 93) dX10_taken_90 ml_RX10_187 mo_X10_pairsOf ms_X10_pairsOf (Nat.le_of_ble_eq_true rfl) rfl rfl (Nat.le_of_ble_eq_true rfl) (by decide) (c_pairsOf (by omega)) ?_
    refine k_goto (tgt := 102) dX10_taken_93 rfl ?_
    refine loop (pN (sz h)) (by have := pN_le hb.2; omega) (fun s w hs hw => ?_)
    refine k_iload_n (pc' := 159) dX10_taken_158 rfl ?_
    refine k_if_ne (tgt := 166) (pc' := 162) dX10_taken_159 rfl (fun zz_ => absurd rfl zz_) (fun _ => ?_)
    refine k_iload_n (pc' := 163) dX10_taken_162 rfl ?_
    refine k_goto (tgt := 168) dX10_taken_163 rfl ?_
    refine p_ireturn dX10_taken_168 rfl ?_
    exact ⟨by rw [if_pos (by decide), hs], rfl⟩
  · have hne : ¬ nI k = 0 := nI_ne0 (by omega) (by omega)
    refine k_iload_n (pc' := 81) dX10_taken_80 rfl ?_
    refine k_if_ne (tgt := 96) (pc' := 84) dX10_taken_81 rfl (fun _ => ?_) (fun zz_ => absurd zz_ hne)
    refine k_aload_n (pc' := 97) dX10_taken_96 rfl ?_
    refine p_get (pc' := 100) clX10 (Nat.le_of_ble_eq_true rfl) fl_RX10_37 dX10_taken_97 (by first | assumption | decide | omega) (by first | rfl | assumption) rfl ?_
    refine k_iload_n (pc' := 101) dX10_taken_100 rfl ?_
    refine p_ialdN (pc' := 102) dX10_taken_101 (by decide) rfl (by decide) (by simp only [mL92]; omega) ?_
    rw [hs1]
    refine loop (sz h) hs2 (fun s w hs hw => ?_)
    refine k_iload_n (pc' := 159) dX10_taken_158 rfl ?_
    refine k_if_ne (tgt := 166) (pc' := 162) dX10_taken_159 rfl (fun _ => ?_) (fun zz_ => absurd zz_ hne)
    refine k_iload (pc' := 168) dX10_taken_166 rfl ?_
    refine p_ireturn dX10_taken_168 rfl ?_
    exact ⟨by rw [if_neg hne, hw], rfl⟩
theorem m_number {kd sz : Nat → Nat} (ho : hoOk kd sz a) {x y : Int32} : ConP G mX10_number 3 [.ref (adr G 84), .int x, .int y] (putM G σ N D T z a tb) (rL (if (0 ≤ x.toInt ∧ x.toInt ≤ 5) ∧ ¬ kd x.toInt.toNat = 0 ∧ (0 ≤ y.toInt ∧ y.toInt < hoN kd sz x.toInt.toNat) then (a 93 (20 * x.toInt.toNat + y.toInt.toNat)).toInt64 else -9223372036854775808) (putM G σ N D T z a tb)) := by
  refine ConP.of rfl (Nat.le_of_ble_eq_true rfl) ?_
  refine k_iload_n (pc' := 1) dX10_number_0 rfl ?_
  refine p_sI (ν := mX10_isHolder) (pc' := 4) dX10_number_1 ml_RX10_176 mo_X10_isHolder ms_X10_isHolder (Nat.le_of_ble_eq_true rfl) rfl rfl (Nat.le_of_ble_eq_true rfl) (by decide) (c_mIsHolder) ?_
  refine k_if_eq (tgt := 16) (pc' := 7) dX10_number_4 rfl (fun c_4 => ?_) (fun c_4 => ?_)
  · rw [bI_eq] at c_4
    refine k_ldc2 (pc' := 19)  dX10_number_16 cl_RX10_185 ?_
    refine p_lreturn dX10_number_19 rfl ?_
    exact ⟨by rw [if_neg (fun q => c_4 q.1)], rfl⟩
  rw [bI_ne] at c_4
  obtain ⟨h, hh, hx⟩ := nI_in0 (x := x) (n := 6) (by omega) (by omega) (by decide)
  subst hx
  rw [nI_e (show h < 2 ^ 31 by omega), show ((h : Int)).toNat = h from rfl]
  obtain ⟨hk1, hk3, hs1, hs2, hs3⟩ := ho h hh
  by_cases h0 : kd h = 0
  · refine k_aload_n (pc' := 8) dX10_number_7 rfl ?_
    refine p_get (pc' := 11) clX10 (Nat.le_of_ble_eq_true rfl) fl_RX10_34 dX10_number_8 (by first | assumption | decide | omega) (by first | rfl | assumption) rfl ?_
    refine k_iload_n (pc' := 12) dX10_number_11 rfl ?_
    refine p_ialdN (pc' := 13) dX10_number_12 (by first | assumption | decide | omega) (by first | rfl | assumption) (by first | decide | omega) (by first | omega | (simp only [mL85, mL86, mL87, mL88, mL89, mL90, mL91, mL92, mL93, mL94, mL95, mL96, mL97, mL98, mL100, mL101, mL102, mL103]; omega)) ?_
    refine k_if_ne (tgt := 20) (pc' := 16) dX10_number_13 rfl (fun zz_ => absurd (by rw [hk1, h0]; rfl) zz_) (fun _ => ?_)
    refine k_ldc2 (pc' := 19)  dX10_number_16 cl_RX10_185 ?_
    refine p_lreturn dX10_number_19 rfl ?_
    exact ⟨by rw [if_neg (fun q => q.2.1 h0)], rfl⟩
  have hk0 : ¬ a 91 h = 0 := by rw [hk1]; exact nI_ne0 (by omega) (by omega)
  have rest : ∀ M : Nat, M = hoN kd sz h → M ≤ 20 → OkP G mX10_number 3 (rL (if (0 ≤ (h : Int) ∧ (h : Int) ≤ 5) ∧ ¬ kd h = 0 ∧ (0 ≤ y.toInt ∧ y.toInt < hoN kd sz h) then (a 93 (20 * h + y.toInt.toNat)).toInt64 else -9223372036854775808) (putM G σ N D T z a tb)) 48 [some (.ref (adr G 84)), some (.int (nI h)), some (.int y), none] [.int (nI M)] (putM G σ N D T z a tb) := by
    intro M hM hM20
    have hsub : (nI M - nI 1).toInt = (M : Int) - 1 := pk_sub_toInt (by omega) (by decide)
    by_cases hin : 0 ≤ y.toInt ∧ y.toInt < M
    · obtain ⟨k, hk, hy⟩ := nI_in0 (x := y) hin.1 hin.2 (by omega)
      subst hy
      rw [nI_e (show k < 2 ^ 31 by omega)] at hin
      refine k_istore_n (pc' := 49) dX10_number_48 (Nat.le_of_ble_eq_true rfl) rfl ?_
      refine k_iload_n (pc' := 50) dX10_number_49 rfl ?_
      refine k_i2l (pc' := 51) dX10_number_50 rfl ?_
      refine k_lconst (pc' := 52) (v := 0) dX10_number_51 rfl ?_
      refine k_iload_n (pc' := 53) dX10_number_52 rfl ?_
      refine k_iconst (pc' := 54) (v := nI 1) dX10_number_53 rfl ?_
      refine k_isub (pc' := 55) (v := nI M - nI 1) dX10_number_54 rfl ?_
      refine k_i2l (pc' := 56) dX10_number_55 rfl ?_
      refine p_sI (ν := mX10_in) (pc' := 59) dX10_number_56 ml_RX10_77 mo_X10_in ms_X10_in (Nat.le_of_ble_eq_true rfl) rfl rfl (Nat.le_of_ble_eq_true rfl) (by decide) (c_in) ?_
      refine k_if_eq (tgt := 77) (pc' := 62) dX10_number_59 rfl (fun zz_ => absurd zz_ (by rw [bI_eq, in_w (p := 0) (q := (M : Int) - 1) rfl (by rw [i2l_e, hsub]), nI_e (by omega)]; omega)) (fun _ => ?_)
      refine k_aload_n (pc' := 63) dX10_number_62 rfl ?_
      refine p_get (pc' := 66) clX10 (Nat.le_of_ble_eq_true rfl) fl_RX10_40 dX10_number_63 (by first | assumption | decide | omega) (by first | rfl | assumption) rfl ?_
      refine k_bipush (pc' := 68) (v := nI 20) dX10_number_66 rfl ?_
      refine k_iload_n (pc' := 69) dX10_number_68 rfl ?_
      refine k_imul (pc' := 70) dX10_number_69 (by first | exact pk_mul _ _ | rfl) ?_
      refine k_iload_n (pc' := 71) dX10_number_70 rfl ?_
      refine k_iadd (pc' := 72) dX10_number_71 (by first | exact nI_add _ _ | rfl) ?_
      refine p_ialdN (pc' := 73) dX10_number_72 (by first | assumption | decide | omega) (by first | rfl | assumption) (by first | decide | omega) (by first | omega | (simp only [mL85, mL86, mL87, mL88, mL89, mL90, mL91, mL92, mL93, mL94, mL95, mL96, mL97, mL98, mL100, mL101, mL102, mL103]; omega)) ?_
      refine k_i2l (pc' := 74) dX10_number_73 rfl ?_
      refine k_goto (tgt := 80) dX10_number_74 rfl ?_
      refine p_lreturn dX10_number_80 rfl ?_
      exact ⟨by rw [nI_e (by omega), if_pos ⟨by omega, h0, by rw [← hM]; exact hin⟩]; rfl, rfl⟩
    · refine k_istore_n (pc' := 49) dX10_number_48 (Nat.le_of_ble_eq_true rfl) rfl ?_
      refine k_iload_n (pc' := 50) dX10_number_49 rfl ?_
      refine k_i2l (pc' := 51) dX10_number_50 rfl ?_
      refine k_lconst (pc' := 52) (v := 0) dX10_number_51 rfl ?_
      refine k_iload_n (pc' := 53) dX10_number_52 rfl ?_
      refine k_iconst (pc' := 54) (v := nI 1) dX10_number_53 rfl ?_
      refine k_isub (pc' := 55) (v := nI M - nI 1) dX10_number_54 rfl ?_
      refine k_i2l (pc' := 56) dX10_number_55 rfl ?_
      refine p_sI (ν := mX10_in) (pc' := 59) dX10_number_56 ml_RX10_77 mo_X10_in ms_X10_in (Nat.le_of_ble_eq_true rfl) rfl rfl (Nat.le_of_ble_eq_true rfl) (by decide) (c_in) ?_
      refine k_if_eq (tgt := 77) (pc' := 62) dX10_number_59 rfl (fun _ => ?_) (fun zz_ => absurd (by rw [bI_eq, in_w (p := 0) (q := (M : Int) - 1) rfl (by rw [i2l_e, hsub])]; omega) zz_)
      refine k_ldc2 (pc' := 80)  dX10_number_77 cl_RX10_185 ?_
      refine p_lreturn dX10_number_80 rfl ?_
      exact ⟨by rw [if_neg (fun q => hin (by rw [hM]; exact q.2.2))], rfl⟩
  by_cases h1 : kd h = 1
  · have hb := hs3 (Or.inl h1)
    refine k_aload_n (pc' := 8) dX10_number_7 rfl ?_
    refine p_get (pc' := 11) clX10 (Nat.le_of_ble_eq_true rfl) fl_RX10_34 dX10_number_8 (by first | assumption | decide | omega) (by first | rfl | assumption) rfl ?_
    refine k_iload_n (pc' := 12) dX10_number_11 rfl ?_
    refine p_ialdN (pc' := 13) dX10_number_12 (by first | assumption | decide | omega) (by first | rfl | assumption) (by first | decide | omega) (by first | omega | (simp only [mL85, mL86, mL87, mL88, mL89, mL90, mL91, mL92, mL93, mL94, mL95, mL96, mL97, mL98, mL100, mL101, mL102, mL103]; omega)) ?_
    refine k_if_ne (tgt := 20) (pc' := 16) dX10_number_13 rfl (fun _ => ?_) (fun zz_ => absurd zz_ hk0)
    refine k_aload_n (pc' := 21) dX10_number_20 rfl ?_
    refine p_get (pc' := 24) clX10 (Nat.le_of_ble_eq_true rfl) fl_RX10_34 dX10_number_21 (by first | assumption | decide | omega) (by first | rfl | assumption) rfl ?_
    refine k_iload_n (pc' := 25) dX10_number_24 rfl ?_
    refine p_ialdN (pc' := 26) dX10_number_25 (by first | assumption | decide | omega) (by first | rfl | assumption) (by first | decide | omega) (by first | omega | (simp only [mL85, mL86, mL87, mL88, mL89, mL90, mL91, mL92, mL93, mL94, mL95, mL96, mL97, mL98, mL100, mL101, mL102, mL103]; omega)) ?_
    refine k_iconst (pc' := 27) (v := nI 1) dX10_number_26 rfl ?_
    refine k_icmp_ne (tgt := 42) (pc' := 30) dX10_number_27 rfl (fun zz_ => absurd (by rw [hk1, h1]) zz_) (fun _ => ?_)
    refine k_aload_n (pc' := 31) dX10_number_30 rfl ?_
    refine p_get (pc' := 34) clX10 (Nat.le_of_ble_eq_true rfl) fl_RX10_37 dX10_number_31 (by first | assumption | decide | omega) (by first | rfl | assumption) rfl ?_
    refine k_iload_n (pc' := 35) dX10_number_34 rfl ?_
    refine p_ialdN (pc' := 36) dX10_number_35 (by decide) rfl (by decide) (by simp only [mL92]; omega) ?_
    rw [hs1]
    refine p_sI (ν := mX10_pairsOf) (pc' := 39) dX10_number_36 ml_RX10_187 mo_X10_pairsOf ms_X10_pairsOf (Nat.le_of_ble_eq_true rfl) rfl rfl (Nat.le_of_ble_eq_true rfl) (by decide) (c_pairsOf (by omega)) ?_
    refine k_goto (tgt := 48) dX10_number_39 rfl ?_
    exact rest (pN (sz h)) (by unfold hoN; rw [if_pos h1]) (by have := pN_le hb.2; omega)
  · refine k_aload_n (pc' := 8) dX10_number_7 rfl ?_
    refine p_get (pc' := 11) clX10 (Nat.le_of_ble_eq_true rfl) fl_RX10_34 dX10_number_8 (by first | assumption | decide | omega) (by first | rfl | assumption) rfl ?_
    refine k_iload_n (pc' := 12) dX10_number_11 rfl ?_
    refine p_ialdN (pc' := 13) dX10_number_12 (by first | assumption | decide | omega) (by first | rfl | assumption) (by first | decide | omega) (by first | omega | (simp only [mL85, mL86, mL87, mL88, mL89, mL90, mL91, mL92, mL93, mL94, mL95, mL96, mL97, mL98, mL100, mL101, mL102, mL103]; omega)) ?_
    refine k_if_ne (tgt := 20) (pc' := 16) dX10_number_13 rfl (fun _ => ?_) (fun zz_ => absurd zz_ hk0)
    refine k_aload_n (pc' := 21) dX10_number_20 rfl ?_
    refine p_get (pc' := 24) clX10 (Nat.le_of_ble_eq_true rfl) fl_RX10_34 dX10_number_21 (by first | assumption | decide | omega) (by first | rfl | assumption) rfl ?_
    refine k_iload_n (pc' := 25) dX10_number_24 rfl ?_
    refine p_ialdN (pc' := 26) dX10_number_25 (by first | assumption | decide | omega) (by first | rfl | assumption) (by first | decide | omega) (by first | omega | (simp only [mL85, mL86, mL87, mL88, mL89, mL90, mL91, mL92, mL93, mL94, mL95, mL96, mL97, mL98, mL100, mL101, mL102, mL103]; omega)) ?_
    refine k_iconst (pc' := 27) (v := nI 1) dX10_number_26 rfl ?_
    refine k_icmp_ne (tgt := 42) (pc' := 30) dX10_number_27 rfl (fun _ => ?_) (fun zz_ => absurd zz_ (by rw [hk1, nI_eq (by omega) (by decide)]; exact h1))
    refine k_aload_n (pc' := 43) dX10_number_42 rfl ?_
    refine p_get (pc' := 46) clX10 (Nat.le_of_ble_eq_true rfl) fl_RX10_37 dX10_number_43 (by first | assumption | decide | omega) (by first | rfl | assumption) rfl ?_
    refine k_iload_n (pc' := 47) dX10_number_46 rfl ?_
    refine p_ialdN (pc' := 48) dX10_number_47 (by decide) rfl (by decide) (by simp only [mL92]; omega) ?_
    rw [hs1]
    exact rest (sz h) (by unfold hoN; rw [if_neg h1]) hs2
theorem m_row {x y : Int32} : ConP G mX10_row 3 [.ref (adr G 84), .int x, .int y] (putM G σ N D T z a tb) (fun v σ' => (¬ ((0 ≤ x.toInt ∧ x.toInt ≤ 5) ∧ y.toInt ≤ 20) ∧ rI (-1) (putM G σ N D T z a tb) v σ') ∨ ((0 ≤ x.toInt ∧ x.toInt ≤ 5) ∧ y.toInt < 0 ∧ rI (-14) (putM G σ N D T z a tb) v σ') ∨ ∃ h n, x = nI h ∧ h < 6 ∧ y = nI n ∧ n ≤ 20 ∧ rI (nI n) (putM G σ N D T z (va_up (va_up (va_up a 91 (upd (a 91) h (nI 3))) 92 (upd (a 92) h (nI n))) 93 (upn 20 0 (fun k c => upd c (20 * h + k) (nI 0)) (a 93))) tb) v σ') := by
  refine ConP.of rfl (Nat.le_of_ble_eq_true rfl) ?_
  refine k_iload_n (pc' := 1) dX10_row_0 rfl ?_
  refine p_sI (ν := mX10_isHolder) (pc' := 4) dX10_row_1 ml_RX10_176 mo_X10_isHolder ms_X10_isHolder (Nat.le_of_ble_eq_true rfl) rfl rfl (Nat.le_of_ble_eq_true rfl) (by decide) (c_mIsHolder) ?_
  refine k_if_eq (tgt := 13) (pc' := 7) dX10_row_4 rfl (fun c_4 => ?_) (fun c_4 => ?_)
  · rw [bI_eq] at c_4
    refine k_iconst (pc' := 14) (v := -1) dX10_row_13 rfl ?_
    refine p_ireturn dX10_row_14 rfl ?_
    exact Or.inl ⟨fun q => c_4 q.1, rfl, rfl⟩
  rw [bI_ne] at c_4
  refine k_iload_n (pc' := 8) dX10_row_7 rfl ?_
  refine k_bipush (pc' := 10) (v := nI 20) dX10_row_8 rfl ?_
  refine k_icmp_le (tgt := 15) (pc' := 13) dX10_row_10 rfl (fun c_10 => ?_) (fun c_10 => ?_)
  rotate_left
  · rw [iLe, nI_e (by decide)] at c_10
    refine k_iconst (pc' := 14) (v := -1) dX10_row_13 rfl ?_
    refine p_ireturn dX10_row_14 rfl ?_
    exact Or.inl ⟨fun q => c_10 q.2, rfl, rfl⟩
  rw [iLe, nI_e (by decide)] at c_10
  refine k_iload_n (pc' := 16) dX10_row_15 rfl ?_
  refine k_if_ge (tgt := 22) (pc' := 19) dX10_row_16 rfl (fun c_16 => ?_) (fun c_16 => ?_)
  rotate_left
  · rw [iLe, i0] at c_16
    refine k_bipush (pc' := 21) (v := -14) dX10_row_19 rfl ?_
    refine p_ireturn dX10_row_21 rfl ?_
    exact Or.inr (Or.inl ⟨c_4, by omega, rfl, rfl⟩)
  rw [iLe, i0] at c_16
  obtain ⟨h, hh, hx⟩ := nI_in0 (x := x) (n := 6) (by omega) (by omega) (by decide)
  obtain ⟨n, hn, hy⟩ := nI_in0 (x := y) (n := 21) (by omega) (by omega) (by decide)
  subst hx; subst hy
  refine k_aload_n (pc' := 23) dX10_row_22 rfl ?_
  refine p_get (pc' := 26) clX10 (Nat.le_of_ble_eq_true rfl) fl_RX10_34 dX10_row_23 (by first | assumption | decide | omega) (by first | rfl | assumption) rfl ?_
  refine k_iload_n (pc' := 27) dX10_row_26 rfl ?_
  refine k_iconst (pc' := 28) (v := nI 3) dX10_row_27 rfl ?_
  refine p_iastN (pc' := 29) dX10_row_28 (by first | assumption | decide | omega) (by first | rfl | assumption) (by first | decide | omega) (by first | omega | (simp only [mL85, mL86, mL87, mL88, mL89, mL90, mL91, mL92, mL93, mL94, mL95, mL96, mL97, mL98, mL100, mL101, mL102, mL103]; omega)) (by exact pMa (by decide)) ?_
  refine k_aload_n (pc' := 30) dX10_row_29 rfl ?_
  refine p_get (pc' := 33) clX10 (Nat.le_of_ble_eq_true rfl) fl_RX10_37 dX10_row_30 (by first | assumption | decide | omega) (by first | rfl | assumption) rfl ?_
  refine k_iload_n (pc' := 34) dX10_row_33 rfl ?_
  refine k_iload_n (pc' := 35) dX10_row_34 rfl ?_
  refine p_iastN (pc' := 36) dX10_row_35 (by first | assumption | decide | omega) (by first | rfl | assumption) (by first | decide | omega) (by first | omega | (simp only [mL85, mL86, mL87, mL88, mL89, mL90, mL91, mL92, mL93, mL94, mL95, mL96, mL97, mL98, mL100, mL101, mL102, mL103]; omega)) (by exact pMa (by decide)) ?_
  refine k_iconst (pc' := 37) (v := nI 0) dX10_row_36 rfl ?_
  refine k_istore_n (pc' := 38) dX10_row_37 (Nat.le_of_ble_eq_true rfl) rfl ?_
  generalize hQ : (fun v σ' => (¬ ((0 ≤ (nI h).toInt ∧ (nI h).toInt ≤ 5) ∧ (nI n).toInt ≤ 20) ∧ rI (-1) (putM G σ N D T z a tb) v σ') ∨ ((0 ≤ (nI h).toInt ∧ (nI h).toInt ≤ 5) ∧ (nI n).toInt < 0 ∧ rI (-14) (putM G σ N D T z a tb) v σ') ∨ ∃ h' n', nI h = nI h' ∧ h' < 6 ∧ nI n = nI n' ∧ n' ≤ 20 ∧ rI (nI n') (putM G σ N D T z (va_up (va_up (va_up a 91 (upd (a 91) h' (nI 3))) 92 (upd (a 92) h' (nI n'))) 93 (upn 20 0 (fun k c => upd c (20 * h' + k) (nI 0)) (a 93))) tb) v σ') = Qf
  have key := loopU (fun k c => OkP G mX10_row 3 Qf 38 [some (.ref (adr G 84)), some (.int (nI h)), some (.int (nI n)), some (.int (nI k))] [] (putM G σ N D T z (va_up (va_up (va_up a 91 (upd (a 91) h (nI 3))) 92 (upd (a 92) h (nI n))) 93 c) tb)) (fun k c => upd c (20 * h + k) (nI 0)) 20 0 20 (a 93) (by omega) ?_ ?_
  · rw [show va_up (va_up (va_up a 91 (upd (a 91) h (nI 3))) 92 (upd (a 92) h (nI n))) 93 (a 93) = va_up (va_up a 91 (upd (a 91) h (nI 3))) 92 (upd (a 92) h (nI n)) from up_id (by rw [up_n (by decide), up_n (by decide)])] at key
    exact key
  · intro k c _ hk ih
    refine k_iload_n (pc' := 39) dX10_row_38 rfl ?_
    refine k_bipush (pc' := 41) (v := nI 20) dX10_row_39 rfl ?_
    refine k_icmp_ge (tgt := 62) (pc' := 44) dX10_row_41 rfl (fun zz_ => absurd zz_ (nI_ge (by omega) (by omega))) (fun _ => ?_)
    refine k_aload_n (pc' := 45) dX10_row_44 rfl ?_
    refine p_get (pc' := 48) clX10 (Nat.le_of_ble_eq_true rfl) fl_RX10_40 dX10_row_45 (by first | assumption | decide | omega) (by first | rfl | assumption) rfl ?_
    refine k_bipush (pc' := 50) (v := nI 20) dX10_row_48 rfl ?_
    refine k_iload_n (pc' := 51) dX10_row_50 rfl ?_
    refine k_imul (pc' := 52) dX10_row_51 (by first | exact pk_mul _ _ | rfl) ?_
    refine k_iload_n (pc' := 53) dX10_row_52 rfl ?_
    refine k_iadd (pc' := 54) dX10_row_53 (by first | exact nI_add _ _ | rfl) ?_
    refine k_iconst (pc' := 55) (v := nI 0) dX10_row_54 rfl ?_
    refine p_iastN (pc' := 56) (σ1 := putM G σ N D T z (va_up (va_up (va_up a 91 (upd (a 91) h (nI 3))) 92 (upd (a 92) h (nI n))) 93 (upd c (20 * h + k) (nI 0))) tb) dX10_row_55 (by first | assumption | decide | omega) (by first | rfl | assumption) (by first | decide | omega) (by first | omega | (simp only [mL85, mL86, mL87, mL88, mL89, mL90, mL91, mL92, mL93, mL94, mL95, mL96, mL97, mL98, mL100, mL101, mL102, mL103]; omega)) (by exact (by rw [pMa (by decide), up_up]; rfl)) ?_
    refine k_iinc (pc' := 59) (v := nI (k + 1)) dX10_row_56 rfl (nI_inc _) (Nat.le_of_ble_eq_true rfl) rfl ?_
    refine k_goto (tgt := 38) dX10_row_59 rfl ?_
    exact ih
  · refine k_iload_n (pc' := 39) dX10_row_38 rfl ?_
    refine k_bipush (pc' := 41) (v := nI 20) dX10_row_39 rfl ?_
    refine k_icmp_ge (tgt := 62) (pc' := 44) dX10_row_41 rfl (fun _ => ?_) (fun zz_ => absurd (nI_le (by omega) (by omega)) zz_)
    refine k_iload_n (pc' := 63) dX10_row_62 rfl ?_
    refine p_ireturn dX10_row_63 rfl ?_
    rw [← hQ]
    exact Or.inr (Or.inr ⟨h, n, rfl, hh, rfl, by omega, rfl, rfl⟩)
theorem c_noRow {kd sz : Nat → Nat} (ho : hoOk kd sz a) {h : Nat} (hh : h < 6) : ConP G mX10_noRow 1 [.ref (adr G 84), .int (nI h)] (putM G σ N D T z a tb) (rI (if kd h = 0 then -11 else if kd h = 3 then 0 else -12) (putM G σ N D T z a tb)) := by
  obtain ⟨hk1, hk3, hs1, hs2, hs3⟩ := ho h hh
  refine ConP.of rfl (Nat.le_of_ble_eq_true rfl) ?_
  by_cases h0 : kd h = 0
  · refine k_aload_n (pc' := 1) dX10_noRow_0 rfl ?_
    refine p_get (pc' := 4) clX10 (Nat.le_of_ble_eq_true rfl) fl_RX10_34 dX10_noRow_1 (by first | assumption | decide | omega) (by first | rfl | assumption) rfl ?_
    refine k_iload_n (pc' := 5) dX10_noRow_4 rfl ?_
    refine p_ialdN (pc' := 6) dX10_noRow_5 (by first | assumption | decide | omega) (by first | rfl | assumption) (by first | decide | omega) (by first | omega | (simp only [mL85, mL86, mL87, mL88, mL89, mL90, mL91, mL92, mL93, mL94, mL95, mL96, mL97, mL98, mL100, mL101, mL102, mL103]; omega)) ?_
    refine k_if_ne (tgt := 14) (pc' := 9) dX10_noRow_6 rfl (fun zz_ => absurd (by rw [hk1, h0]; rfl) zz_) (fun _ => ?_)
    refine k_bipush (pc' := 11) (v := -11) dX10_noRow_9 rfl ?_
    refine k_goto (tgt := 30) dX10_noRow_11 rfl ?_
    refine p_ireturn dX10_noRow_30 rfl ?_
    exact ⟨by rw [if_pos h0], rfl⟩
  have hk0 : ¬ a 91 h = 0 := by rw [hk1]; exact nI_ne0 (by omega) (by omega)
  by_cases h3 : kd h = 3
  · refine k_aload_n (pc' := 1) dX10_noRow_0 rfl ?_
    refine p_get (pc' := 4) clX10 (Nat.le_of_ble_eq_true rfl) fl_RX10_34 dX10_noRow_1 (by first | assumption | decide | omega) (by first | rfl | assumption) rfl ?_
    refine k_iload_n (pc' := 5) dX10_noRow_4 rfl ?_
    refine p_ialdN (pc' := 6) dX10_noRow_5 (by first | assumption | decide | omega) (by first | rfl | assumption) (by first | decide | omega) (by first | omega | (simp only [mL85, mL86, mL87, mL88, mL89, mL90, mL91, mL92, mL93, mL94, mL95, mL96, mL97, mL98, mL100, mL101, mL102, mL103]; omega)) ?_
    refine k_if_ne (tgt := 14) (pc' := 9) dX10_noRow_6 rfl (fun _ => ?_) (fun zz_ => absurd zz_ hk0)
    refine k_aload_n (pc' := 15) dX10_noRow_14 rfl ?_
    refine p_get (pc' := 18) clX10 (Nat.le_of_ble_eq_true rfl) fl_RX10_34 dX10_noRow_15 (by first | assumption | decide | omega) (by first | rfl | assumption) rfl ?_
    refine k_iload_n (pc' := 19) dX10_noRow_18 rfl ?_
    refine p_ialdN (pc' := 20) dX10_noRow_19 (by first | assumption | decide | omega) (by first | rfl | assumption) (by first | decide | omega) (by first | omega | (simp only [mL85, mL86, mL87, mL88, mL89, mL90, mL91, mL92, mL93, mL94, mL95, mL96, mL97, mL98, mL100, mL101, mL102, mL103]; omega)) ?_
    refine k_iconst (pc' := 21) (v := nI 3) dX10_noRow_20 rfl ?_
    refine k_icmp_eq (tgt := 29) (pc' := 24) dX10_noRow_21 rfl (fun _ => ?_) (fun zz_ => absurd (by rw [hk1, h3]) zz_)
    refine k_iconst (pc' := 30) (v := nI 0) dX10_noRow_29 rfl ?_
    refine p_ireturn dX10_noRow_30 rfl ?_
    exact ⟨by rw [if_neg h0, if_pos h3]; rfl, rfl⟩
  · refine k_aload_n (pc' := 1) dX10_noRow_0 rfl ?_
    refine p_get (pc' := 4) clX10 (Nat.le_of_ble_eq_true rfl) fl_RX10_34 dX10_noRow_1 (by first | assumption | decide | omega) (by first | rfl | assumption) rfl ?_
    refine k_iload_n (pc' := 5) dX10_noRow_4 rfl ?_
    refine p_ialdN (pc' := 6) dX10_noRow_5 (by first | assumption | decide | omega) (by first | rfl | assumption) (by first | decide | omega) (by first | omega | (simp only [mL85, mL86, mL87, mL88, mL89, mL90, mL91, mL92, mL93, mL94, mL95, mL96, mL97, mL98, mL100, mL101, mL102, mL103]; omega)) ?_
    refine k_if_ne (tgt := 14) (pc' := 9) dX10_noRow_6 rfl (fun _ => ?_) (fun zz_ => absurd zz_ hk0)
    refine k_aload_n (pc' := 15) dX10_noRow_14 rfl ?_
    refine p_get (pc' := 18) clX10 (Nat.le_of_ble_eq_true rfl) fl_RX10_34 dX10_noRow_15 (by first | assumption | decide | omega) (by first | rfl | assumption) rfl ?_
    refine k_iload_n (pc' := 19) dX10_noRow_18 rfl ?_
    refine p_ialdN (pc' := 20) dX10_noRow_19 (by first | assumption | decide | omega) (by first | rfl | assumption) (by first | decide | omega) (by first | omega | (simp only [mL85, mL86, mL87, mL88, mL89, mL90, mL91, mL92, mL93, mL94, mL95, mL96, mL97, mL98, mL100, mL101, mL102, mL103]; omega)) ?_
    refine k_iconst (pc' := 21) (v := nI 3) dX10_noRow_20 rfl ?_
    refine k_icmp_eq (tgt := 29) (pc' := 24) dX10_noRow_21 rfl (fun zz_ => absurd zz_ (by rw [hk1, nI_eq (by omega) (by decide)]; exact h3)) (fun _ => ?_)
    refine k_bipush (pc' := 26) (v := -12) dX10_noRow_24 rfl ?_
    refine k_goto (tgt := 30) dX10_noRow_26 rfl ?_
    refine p_ireturn dX10_noRow_30 rfl ?_
    exact ⟨by rw [if_neg h0, if_neg h3], rfl⟩
theorem m_set {kd sz : Nat → Nat} (ho : hoOk kd sz a) {x y w : Int32} : ConP G mX10_set 3 [.ref (adr G 84), .int x, .int y, .int w] (putM G σ N D T z a tb) (fun v σ' => (¬ (0 ≤ x.toInt ∧ x.toInt ≤ 5) ∧ rI (-1) (putM G σ N D T z a tb) v σ') ∨ ∃ h, x = nI h ∧ h < 6 ∧ ((kd h = 0 ∧ rI (-11) (putM G σ N D T z a tb) v σ') ∨ (¬ kd h = 0 ∧ ¬ kd h = 3 ∧ rI (-12) (putM G σ N D T z a tb) v σ') ∨ (kd h = 3 ∧ ¬ (0 ≤ y.toInt ∧ y.toInt < sz h) ∧ rI (-13) (putM G σ N D T z a tb) v σ') ∨ ∃ i, kd h = 3 ∧ y = nI i ∧ i < sz h ∧ rI 1 (putM G σ N D T z (va_up a 93 (upd (a 93) (20 * h + i) w)) tb) v σ')) := by
  refine ConP.of rfl (Nat.le_of_ble_eq_true rfl) ?_
  refine k_iload_n (pc' := 1) dX10_set_0 rfl ?_
  refine p_sI (ν := mX10_isHolder) (pc' := 4) dX10_set_1 ml_RX10_176 mo_X10_isHolder ms_X10_isHolder (Nat.le_of_ble_eq_true rfl) rfl rfl (Nat.le_of_ble_eq_true rfl) (by decide) (c_mIsHolder) ?_
  refine k_if_ne (tgt := 9) (pc' := 7) dX10_set_4 rfl (fun c_4 => ?_) (fun c_4 => ?_)
  rotate_left
  · rw [bI_eq] at c_4
    refine k_iconst (pc' := 8) (v := -1) dX10_set_7 rfl ?_
    refine p_ireturn dX10_set_8 rfl ?_
    exact Or.inl ⟨c_4, rfl, rfl⟩
  rw [bI_ne] at c_4
  obtain ⟨h, hh, hx⟩ := nI_in0 (x := x) (n := 6) (by omega) (by omega) (by decide)
  subst hx
  obtain ⟨hk1, hk3, hs1, hs2, hs3⟩ := ho h hh
  by_cases h0 : kd h = 0
  · refine k_aload_n (pc' := 10) dX10_set_9 rfl ?_
    refine k_iload_n (pc' := 11) dX10_set_10 rfl ?_
    refine p_vI (ν := mX10_noRow) (pc' := 14) dX10_set_11 ml_RX10_271 mo_X10_noRow mv_X10_noRow clX10 (Nat.le_of_ble_eq_true rfl) rfl rfl (Nat.le_of_ble_eq_true rfl) (by first | assumption | decide | omega) (by first | rfl | assumption) (by decide) (c_noRow ho hh) ?_
    refine k_if_eq (tgt := 23) (pc' := 17) dX10_set_14 rfl (fun zz_ => absurd zz_ (by rw [if_pos h0]; decide)) (fun _ => ?_)
    refine k_aload_n (pc' := 18) dX10_set_17 rfl ?_
    refine k_iload_n (pc' := 19) dX10_set_18 rfl ?_
    refine p_vI (ν := mX10_noRow) (pc' := 22) dX10_set_19 ml_RX10_271 mo_X10_noRow mv_X10_noRow clX10 (Nat.le_of_ble_eq_true rfl) rfl rfl (Nat.le_of_ble_eq_true rfl) (by first | assumption | decide | omega) (by first | rfl | assumption) (by decide) (c_noRow ho hh) ?_
    refine p_ireturn dX10_set_22 rfl ?_
    exact Or.inr ⟨h, rfl, hh, Or.inl ⟨h0, by rw [if_pos h0], rfl⟩⟩
  by_cases h3 : kd h = 3
  rotate_left
  · refine k_aload_n (pc' := 10) dX10_set_9 rfl ?_
    refine k_iload_n (pc' := 11) dX10_set_10 rfl ?_
    refine p_vI (ν := mX10_noRow) (pc' := 14) dX10_set_11 ml_RX10_271 mo_X10_noRow mv_X10_noRow clX10 (Nat.le_of_ble_eq_true rfl) rfl rfl (Nat.le_of_ble_eq_true rfl) (by first | assumption | decide | omega) (by first | rfl | assumption) (by decide) (c_noRow ho hh) ?_
    refine k_if_eq (tgt := 23) (pc' := 17) dX10_set_14 rfl (fun zz_ => absurd zz_ (by rw [if_neg h0, if_neg h3]; decide)) (fun _ => ?_)
    refine k_aload_n (pc' := 18) dX10_set_17 rfl ?_
    refine k_iload_n (pc' := 19) dX10_set_18 rfl ?_
    refine p_vI (ν := mX10_noRow) (pc' := 22) dX10_set_19 ml_RX10_271 mo_X10_noRow mv_X10_noRow clX10 (Nat.le_of_ble_eq_true rfl) rfl rfl (Nat.le_of_ble_eq_true rfl) (by first | assumption | decide | omega) (by first | rfl | assumption) (by decide) (c_noRow ho hh) ?_
    refine p_ireturn dX10_set_22 rfl ?_
    exact Or.inr ⟨h, rfl, hh, Or.inr (Or.inl ⟨h0, h3, by rw [if_neg h0, if_neg h3], rfl⟩)⟩
  refine k_aload_n (pc' := 10) dX10_set_9 rfl ?_
  refine k_iload_n (pc' := 11) dX10_set_10 rfl ?_
  refine p_vI (ν := mX10_noRow) (pc' := 14) dX10_set_11 ml_RX10_271 mo_X10_noRow mv_X10_noRow clX10 (Nat.le_of_ble_eq_true rfl) rfl rfl (Nat.le_of_ble_eq_true rfl) (by first | assumption | decide | omega) (by first | rfl | assumption) (by decide) (c_noRow ho hh) ?_
  refine k_if_eq (tgt := 23) (pc' := 17) dX10_set_14 rfl (fun _ => ?_) (fun zz_ => absurd (by rw [if_neg h0, if_pos h3]) zz_)
  refine k_iload_n (pc' := 24) dX10_set_23 rfl ?_
  refine k_i2l (pc' := 25) dX10_set_24 rfl ?_
  refine k_lconst (pc' := 26) (v := 0) dX10_set_25 rfl ?_
  refine k_aload_n (pc' := 27) dX10_set_26 rfl ?_
  refine p_get (pc' := 30) clX10 (Nat.le_of_ble_eq_true rfl) fl_RX10_37 dX10_set_27 (by first | assumption | decide | omega) (by first | rfl | assumption) rfl ?_
  refine k_iload_n (pc' := 31) dX10_set_30 rfl ?_
  refine p_ialdN (pc' := 32) dX10_set_31 (by decide) rfl (by decide) (by simp only [mL92]; omega) ?_
  rw [hs1]
  have hsub : (nI (sz h) - nI 1).toInt = (sz h : Int) - 1 := pk_sub_toInt (by omega) (by decide)
  by_cases hin : 0 ≤ y.toInt ∧ y.toInt < sz h
  · obtain ⟨i, hi, hy⟩ := nI_in0 (x := y) hin.1 hin.2 (by omega)
    subst hy
    refine k_iconst (pc' := 33) (v := nI 1) dX10_set_32 rfl ?_
    refine k_isub (pc' := 34) (v := nI (sz h) - nI 1) dX10_set_33 rfl ?_
    refine k_i2l (pc' := 35) dX10_set_34 rfl ?_
    refine p_sI (ν := mX10_in) (pc' := 38) dX10_set_35 ml_RX10_77 mo_X10_in ms_X10_in (Nat.le_of_ble_eq_true rfl) rfl rfl (Nat.le_of_ble_eq_true rfl) (by decide) (c_in) ?_
    refine k_if_ne (tgt := 44) (pc' := 41) dX10_set_38 rfl (fun _ => ?_) (fun zz_ => absurd zz_ (by rw [bI_ne, in_w (p := 0) (q := (sz h : Int) - 1) rfl (by rw [i2l_e, hsub])]; omega))
    refine k_aload_n (pc' := 45) dX10_set_44 rfl ?_
    refine p_get (pc' := 48) clX10 (Nat.le_of_ble_eq_true rfl) fl_RX10_40 dX10_set_45 (by first | assumption | decide | omega) (by first | rfl | assumption) rfl ?_
    refine k_bipush (pc' := 50) (v := nI 20) dX10_set_48 rfl ?_
    refine k_iload_n (pc' := 51) dX10_set_50 rfl ?_
    refine k_imul (pc' := 52) dX10_set_51 (by first | exact pk_mul _ _ | rfl) ?_
    refine k_iload_n (pc' := 53) dX10_set_52 rfl ?_
    refine k_iadd (pc' := 54) dX10_set_53 (by first | exact nI_add _ _ | rfl) ?_
    refine k_iload_n (pc' := 55) dX10_set_54 rfl ?_
    refine p_iastN (pc' := 56) dX10_set_55 (by first | assumption | decide | omega) (by first | rfl | assumption) (by first | decide | omega) (by first | omega | (simp only [mL85, mL86, mL87, mL88, mL89, mL90, mL91, mL92, mL93, mL94, mL95, mL96, mL97, mL98, mL100, mL101, mL102, mL103]; omega)) (by exact pMa (by decide)) ?_
    refine k_iconst (pc' := 57) (v := nI 1) dX10_set_56 rfl ?_
    refine p_ireturn dX10_set_57 rfl ?_
    exact Or.inr ⟨h, rfl, hh, Or.inr (Or.inr (Or.inr ⟨i, h3, rfl, hi, rfl, rfl⟩))⟩
  · refine k_iconst (pc' := 33) (v := nI 1) dX10_set_32 rfl ?_
    refine k_isub (pc' := 34) (v := nI (sz h) - nI 1) dX10_set_33 rfl ?_
    refine k_i2l (pc' := 35) dX10_set_34 rfl ?_
    refine p_sI (ν := mX10_in) (pc' := 38) dX10_set_35 ml_RX10_77 mo_X10_in ms_X10_in (Nat.le_of_ble_eq_true rfl) rfl rfl (Nat.le_of_ble_eq_true rfl) (by decide) (c_in) ?_
    refine k_if_ne (tgt := 44) (pc' := 41) dX10_set_38 rfl (fun zz_ => absurd (by rw [bI_eq, in_w (p := 0) (q := (sz h : Int) - 1) rfl (by rw [i2l_e, hsub])]; omega) zz_) (fun _ => ?_)
    refine k_bipush (pc' := 43) (v := -13) dX10_set_41 rfl ?_
    refine p_ireturn dX10_set_43 rfl ?_
    exact Or.inr ⟨h, rfl, hh, Or.inr (Or.inr (Or.inl ⟨h3, hin, rfl, rfl⟩))⟩
theorem m_image : ConP G mX10_image 2 [.ref (adr G 84)] (putM G σ N D T z a tb) (rI (nI N) (putM G σ N D T (va_up (va_up z 12 (nI 1)) 13 (nI N)) (va_up (va_up (va_up a 94 (cpA 36 (a 85) (a 94))) 95 (cpA 6 (a 86) (a 95))) 96 (cpA 6 (a 87) (a 96))) tb)) := by
  refine ConP.of rfl (Nat.le_of_ble_eq_true rfl) ?_
  refine k_aload_n (pc' := 1) dX10_image_0 rfl ?_
  refine k_iconst (pc' := 2) (v := nI 1) dX10_image_1 rfl ?_
  refine p_putI (pc' := 5) clX10 (Nat.le_of_ble_eq_true rfl) fl_RX10_274 dX10_image_2 rfl (Or.inr ⟨rfl, Or.inr rfl⟩) (by first | assumption | decide | omega) (by first | rfl | assumption) (Nat.le_of_ble_eq_true rfl) (by exact pMz12) ?_
  refine k_aload_n (pc' := 6) dX10_image_5 rfl ?_
  refine k_aload_n (pc' := 7) dX10_image_6 rfl ?_
  refine p_get (pc' := 10) clX10 (Nat.le_of_ble_eq_true rfl) fl_RX10_9 dX10_image_7 (by first | assumption | decide | omega) (by first | rfl | assumption) rfl ?_
  refine p_putI (pc' := 13) clX10 (Nat.le_of_ble_eq_true rfl) fl_RX10_277 dX10_image_10 rfl (Or.inl rfl) (by first | assumption | decide | omega) (by first | rfl | assumption) (Nat.le_of_ble_eq_true rfl) (by exact pMz13) ?_
  refine k_aload_n (pc' := 14) dX10_image_13 rfl ?_
  refine p_get (pc' := 17) clX10 (Nat.le_of_ble_eq_true rfl) fl_RX10_15 dX10_image_14 (by first | assumption | decide | omega) (by first | rfl | assumption) rfl ?_
  refine k_aload_n (pc' := 18) dX10_image_17 rfl ?_
  refine p_get (pc' := 21) clX10 (Nat.le_of_ble_eq_true rfl) fl_RX10_43 dX10_image_18 (by first | assumption | decide | omega) (by first | rfl | assumption) rfl ?_
  refine p_sV (ν := mX10_copies) (pc' := 24) dX10_image_21 ml_RX10_96 mo_X10_copies ms_X10_copies (Nat.le_of_ble_eq_true rfl) rfl rfl (Nat.le_of_ble_eq_true rfl) (by decide) (c_copies (p := 85) (q := 94) (n := 36) (m := 36) (f := a 85) (g := a 94) (by decide) (by decide) (by decide) rfl rfl (by decide) (by decide)) ?_
  rw [show aI G 36 (cpA 36 (a 85) (a 94)) = aI G (mLen 94) (cpA 36 (a 85) (a 94)) from rfl, pMa (by decide)]
  refine k_aload_n (pc' := 25) dX10_image_24 rfl ?_
  refine p_get (pc' := 28) clX10 (Nat.le_of_ble_eq_true rfl) fl_RX10_19 dX10_image_25 (by first | assumption | decide | omega) (by first | rfl | assumption) rfl ?_
  refine k_aload_n (pc' := 29) dX10_image_28 rfl ?_
  refine p_get (pc' := 32) clX10 (Nat.le_of_ble_eq_true rfl) fl_RX10_46 dX10_image_29 (by first | assumption | decide | omega) (by first | rfl | assumption) rfl ?_
  refine p_sV (ν := mX10_copies) (pc' := 35) dX10_image_32 ml_RX10_96 mo_X10_copies ms_X10_copies (Nat.le_of_ble_eq_true rfl) rfl rfl (Nat.le_of_ble_eq_true rfl) (by decide) (c_copies (p := 86) (q := 95) (n := 6) (m := 6) (f := a 86) (g := a 95) (by decide) (by decide) (by decide) rfl rfl (by decide) (by decide)) ?_
  rw [show aI G 6 (cpA 6 (a 86) (a 95)) = aI G (mLen 95) (cpA 6 (a 86) (a 95)) from rfl, pMa (by decide)]
  refine k_aload_n (pc' := 36) dX10_image_35 rfl ?_
  refine p_get (pc' := 39) clX10 (Nat.le_of_ble_eq_true rfl) fl_RX10_22 dX10_image_36 (by first | assumption | decide | omega) (by first | rfl | assumption) rfl ?_
  refine k_aload_n (pc' := 40) dX10_image_39 rfl ?_
  refine p_get (pc' := 43) clX10 (Nat.le_of_ble_eq_true rfl) fl_RX10_49 dX10_image_40 (by first | assumption | decide | omega) (by first | rfl | assumption) rfl ?_
  refine p_sV (ν := mX10_copies) (pc' := 46) dX10_image_43 ml_RX10_96 mo_X10_copies ms_X10_copies (Nat.le_of_ble_eq_true rfl) rfl rfl (Nat.le_of_ble_eq_true rfl) (by decide) (c_copies (p := 87) (q := 96) (n := 6) (m := 6) (f := a 87) (g := a 96) (by decide) (by decide) (by decide) rfl rfl (by decide) (by decide)) ?_
  rw [show aI G 6 (cpA 6 (a 87) (a 96)) = aI G (mLen 96) (cpA 6 (a 87) (a 96)) from rfl, pMa (by decide)]
  refine k_aload_n (pc' := 47) dX10_image_46 rfl ?_
  refine p_get (pc' := 50) clX10 (Nat.le_of_ble_eq_true rfl) fl_RX10_9 dX10_image_47 (by first | assumption | decide | omega) (by first | rfl | assumption) rfl ?_
  refine p_ireturn dX10_image_50 rfl ?_
  exact ⟨rfl, rfl⟩
theorem m_undo0 (h : z 12 = 0) : ConP G mX10_undo 2 [.ref (adr G 84)] (putM G σ N D T z a tb) (rI (-5) (putM G σ N D T z a tb)) := by
  refine ConP.of rfl (Nat.le_of_ble_eq_true rfl) ?_
  refine k_aload_n (pc' := 1) dX10_undo_0 rfl ?_
  refine p_get (pc' := 4) clX10 (Nat.le_of_ble_eq_true rfl) fl_RX10_274 dX10_undo_1 (by first | assumption | decide | omega) (by first | rfl | assumption) rfl ?_
  refine k_if_ne (tgt := 10) (pc' := 7) dX10_undo_4 rfl (fun zz_ => absurd h zz_) (fun _ => ?_)
  refine k_bipush (pc' := 9) (v := -5) dX10_undo_7 rfl ?_
  refine p_ireturn dX10_undo_9 rfl ?_
  exact ⟨rfl, rfl⟩
theorem m_undo {P : Nat} (h : ¬ z 12 = 0) (hP : z 13 = nI P) : ConP G mX10_undo 2 [.ref (adr G 84)] (putM G σ N D T z a tb) (rI (nI P) (putM G σ P 0 T z (va_up (va_up (va_up a 85 (cpA 36 (a 94) (a 85))) 86 (cpA 6 (a 95) (a 86))) 87 (cpA 6 (a 96) (a 87))) tb)) := by
  refine ConP.of rfl (Nat.le_of_ble_eq_true rfl) ?_
  refine k_aload_n (pc' := 1) dX10_undo_0 rfl ?_
  refine p_get (pc' := 4) clX10 (Nat.le_of_ble_eq_true rfl) fl_RX10_274 dX10_undo_1 (by first | assumption | decide | omega) (by first | rfl | assumption) rfl ?_
  refine k_if_ne (tgt := 10) (pc' := 7) dX10_undo_4 rfl (fun _ => ?_) (fun zz_ => absurd zz_ h)
  refine k_aload_n (pc' := 11) dX10_undo_10 rfl ?_
  refine k_aload_n (pc' := 12) dX10_undo_11 rfl ?_
  refine p_get (pc' := 15) clX10 (Nat.le_of_ble_eq_true rfl) fl_RX10_277 dX10_undo_12 (by decide) rfl rfl ?_
  rw [hP]
  refine p_putI (pc' := 18) clX10 (Nat.le_of_ble_eq_true rfl) fl_RX10_9 dX10_undo_15 rfl (Or.inl rfl) (by first | assumption | decide | omega) (by first | rfl | assumption) (Nat.le_of_ble_eq_true rfl) (by exact pMz0) ?_
  refine k_aload_n (pc' := 19) dX10_undo_18 rfl ?_
  refine p_get (pc' := 22) clX10 (Nat.le_of_ble_eq_true rfl) fl_RX10_43 dX10_undo_19 (by first | assumption | decide | omega) (by first | rfl | assumption) rfl ?_
  refine k_aload_n (pc' := 23) dX10_undo_22 rfl ?_
  refine p_get (pc' := 26) clX10 (Nat.le_of_ble_eq_true rfl) fl_RX10_15 dX10_undo_23 (by first | assumption | decide | omega) (by first | rfl | assumption) rfl ?_
  refine p_sV (ν := mX10_copies) (pc' := 29) dX10_undo_26 ml_RX10_96 mo_X10_copies ms_X10_copies (Nat.le_of_ble_eq_true rfl) rfl rfl (Nat.le_of_ble_eq_true rfl) (by decide) (c_copies (p := 94) (q := 85) (n := 36) (m := 36) (f := a 94) (g := a 85) (by decide) (by decide) (by decide) rfl rfl (by decide) (by decide)) ?_
  rw [show aI G 36 (cpA 36 (a 94) (a 85)) = aI G (mLen 85) (cpA 36 (a 94) (a 85)) from rfl, pMa (by decide)]
  refine k_aload_n (pc' := 30) dX10_undo_29 rfl ?_
  refine p_get (pc' := 33) clX10 (Nat.le_of_ble_eq_true rfl) fl_RX10_46 dX10_undo_30 (by first | assumption | decide | omega) (by first | rfl | assumption) rfl ?_
  refine k_aload_n (pc' := 34) dX10_undo_33 rfl ?_
  refine p_get (pc' := 37) clX10 (Nat.le_of_ble_eq_true rfl) fl_RX10_19 dX10_undo_34 (by first | assumption | decide | omega) (by first | rfl | assumption) rfl ?_
  refine p_sV (ν := mX10_copies) (pc' := 40) dX10_undo_37 ml_RX10_96 mo_X10_copies ms_X10_copies (Nat.le_of_ble_eq_true rfl) rfl rfl (Nat.le_of_ble_eq_true rfl) (by decide) (c_copies (p := 95) (q := 86) (n := 6) (m := 6) (f := a 95) (g := a 86) (by decide) (by decide) (by decide) rfl rfl (by decide) (by decide)) ?_
  rw [show aI G 6 (cpA 6 (a 95) (a 86)) = aI G (mLen 86) (cpA 6 (a 95) (a 86)) from rfl, pMa (by decide)]
  refine k_aload_n (pc' := 41) dX10_undo_40 rfl ?_
  refine p_get (pc' := 44) clX10 (Nat.le_of_ble_eq_true rfl) fl_RX10_49 dX10_undo_41 (by first | assumption | decide | omega) (by first | rfl | assumption) rfl ?_
  refine k_aload_n (pc' := 45) dX10_undo_44 rfl ?_
  refine p_get (pc' := 48) clX10 (Nat.le_of_ble_eq_true rfl) fl_RX10_22 dX10_undo_45 (by first | assumption | decide | omega) (by first | rfl | assumption) rfl ?_
  refine p_sV (ν := mX10_copies) (pc' := 51) dX10_undo_48 ml_RX10_96 mo_X10_copies ms_X10_copies (Nat.le_of_ble_eq_true rfl) rfl rfl (Nat.le_of_ble_eq_true rfl) (by decide) (c_copies (p := 96) (q := 87) (n := 6) (m := 6) (f := a 96) (g := a 87) (by decide) (by decide) (by decide) rfl rfl (by decide) (by decide)) ?_
  rw [show aI G 6 (cpA 6 (a 96) (a 87)) = aI G (mLen 87) (cpA 6 (a 96) (a 87)) from rfl, pMa (by decide)]
  refine k_aload_n (pc' := 52) dX10_undo_51 rfl ?_
  refine k_iconst (pc' := 53) (v := nI 0) dX10_undo_52 rfl ?_
  refine p_putI (pc' := 56) clX10 (Nat.le_of_ble_eq_true rfl) fl_RX10_100 dX10_undo_53 rfl (Or.inl rfl) (by first | assumption | decide | omega) (by first | rfl | assumption) (Nat.le_of_ble_eq_true rfl) (by exact pMz4) ?_
  refine k_aload_n (pc' := 57) dX10_undo_56 rfl ?_
  refine p_get (pc' := 60) clX10 (Nat.le_of_ble_eq_true rfl) fl_RX10_9 dX10_undo_57 (by first | assumption | decide | omega) (by first | rfl | assumption) rfl ?_
  refine p_ireturn dX10_undo_60 rfl ?_
  exact ⟨rfl, rfl⟩
theorem m_count (hN : 2 ≤ N) (hN6 : N ≤ 6) {x : Int32} : ConP G mX10_count 2 [.ref (adr G 84), .int x] (putM G σ N D T z a tb) (rI (if x = 0 then nI N else if x = 1 then nI (pN N) else if x = 2 then mAll N (a 85) else if x = 3 then nI D else if x = 4 then nI T else -1) (putM G σ N D T z a tb)) := by
  refine ConP.of rfl (Nat.le_of_ble_eq_true rfl) ?_
  by_cases hin : 0 ≤ x.toInt ∧ x.toInt ≤ 4
  · obtain ⟨k, hk, hx⟩ := nI_in0 (x := x) (n := 5) (by omega) (by omega) (by decide)
    subst hx
    rcases (show k = 0 ∨ k = 1 ∨ k = 2 ∨ k = 3 ∨ k = 4 by omega) with rfl | rfl | rfl | rfl | rfl
    · refine k_iload_n (pc' := 1) dX10_count_0 rfl ?_
      refine k_tswIn (tgt := 36) dX10_count_1 (by decide) (by decide) rfl rfl ?_
      refine k_aload_n (pc' := 37) dX10_count_36 rfl ?_
      refine p_get (pc' := 40) clX10 (Nat.le_of_ble_eq_true rfl) fl_RX10_9 dX10_count_37 (by first | assumption | decide | omega) (by first | rfl | assumption) rfl ?_
      refine p_ireturn dX10_count_40 rfl ?_
      exact ⟨rfl, rfl⟩
    · refine k_iload_n (pc' := 1) dX10_count_0 rfl ?_
      refine k_tswIn (tgt := 41) dX10_count_1 (by decide) (by decide) rfl rfl ?_
      refine k_aload_n (pc' := 42) dX10_count_41 rfl ?_
      refine p_get (pc' := 45) clX10 (Nat.le_of_ble_eq_true rfl) fl_RX10_9 dX10_count_42 (by first | assumption | decide | omega) (by first | rfl | assumption) rfl ?_
      refine p_sI (ν := mX10_pairsOf) (pc' := 48) dX10_count_45 ml_RX10_187 mo_X10_pairsOf ms_X10_pairsOf (Nat.le_of_ble_eq_true rfl) rfl rfl (Nat.le_of_ble_eq_true rfl) (by decide) (c_pairsOf (by omega)) ?_
      refine p_ireturn dX10_count_48 rfl ?_
      exact ⟨rfl, rfl⟩
    · refine k_iload_n (pc' := 1) dX10_count_0 rfl ?_
      refine k_tswIn (tgt := 49) dX10_count_1 (by decide) (by decide) rfl rfl ?_
      refine k_aload_n (pc' := 50) dX10_count_49 rfl ?_
      refine p_vI (ν := mX10_all) (pc' := 53) dX10_count_50 ml_RX10_133 mo_X10_all mv_X10_all clX10 (Nat.le_of_ble_eq_true rfl) rfl rfl (Nat.le_of_ble_eq_true rfl) (by first | assumption | decide | omega) (by first | rfl | assumption) (by decide) (c_all hN hN6) ?_
      refine p_ireturn dX10_count_53 rfl ?_
      exact ⟨rfl, rfl⟩
    · refine k_iload_n (pc' := 1) dX10_count_0 rfl ?_
      refine k_tswIn (tgt := 54) dX10_count_1 (by decide) (by decide) rfl rfl ?_
      refine k_aload_n (pc' := 55) dX10_count_54 rfl ?_
      refine p_get (pc' := 58) clX10 (Nat.le_of_ble_eq_true rfl) fl_RX10_100 dX10_count_55 (by first | assumption | decide | omega) (by first | rfl | assumption) rfl ?_
      refine p_ireturn dX10_count_58 rfl ?_
      exact ⟨rfl, rfl⟩
    · refine k_iload_n (pc' := 1) dX10_count_0 rfl ?_
      refine k_tswIn (tgt := 59) dX10_count_1 (by decide) (by decide) rfl rfl ?_
      refine k_aload_n (pc' := 60) dX10_count_59 rfl ?_
      refine p_get (pc' := 63) clX10 (Nat.le_of_ble_eq_true rfl) fl_RX10_74 dX10_count_60 (by first | assumption | decide | omega) (by first | rfl | assumption) rfl ?_
      refine p_ireturn dX10_count_63 rfl ?_
      exact ⟨rfl, rfl⟩
  · refine k_iload_n (pc' := 1) dX10_count_0 rfl ?_
    refine k_tswOut (tgt := 64) dX10_count_1 (by omega) rfl ?_
    refine k_iconst (pc' := 65) (v := -1) dX10_count_64 rfl ?_
    refine p_ireturn dX10_count_65 rfl ?_
    have n0 : ∀ k : Nat, k ≤ 4 → ¬ x = nI k := fun k hk q => by subst q; rw [nI_e (by omega)] at hin; omega
    exact ⟨by rw [if_neg (show ¬ x = 0 from n0 0 (by decide)), if_neg (show ¬ x = 1 from n0 1 (by decide)), if_neg (show ¬ x = 2 from n0 2 (by decide)), if_neg (show ¬ x = 3 from n0 3 (by decide)), if_neg (show ¬ x = 4 from n0 4 (by decide))], rfl⟩
end MODEL12
