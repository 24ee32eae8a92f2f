/-! double loops that change one place each -/
def nst (N : Nat) (h : Nat → Nat → Int32 → Int32) (f : Nat → Int32) : Nat → Int32 := upn N 0 (fun i f => upn (N - (i + 1)) (i + 1) (fun j f => upd f (6 * i + j) (h i j (f (6 * i + j)))) f) f
theorem nst_row {i : Nat} {h : Nat → Int32 → Int32} : ∀ n k (f : Nat → Int32) q, upn n k (fun j f => upd f (6 * i + j) (h j (f (6 * i + j)))) f q = if 6 * i + k ≤ q ∧ q < 6 * i + k + n then h (q - 6 * i) (f q) else f q := by
  intro n
  induction n with
  | zero => intro k f q; rw [if_neg (by omega)]; rfl
  | succ n ih =>
    intro k f q
    show upn n (k + 1) (fun j f => upd f (6 * i + j) (h j (f (6 * i + j)))) (upd f (6 * i + k) (h k (f (6 * i + k)))) q = _
    rw [ih (k + 1) _ q]
    by_cases h1 : q = 6 * i + k
    · subst h1
      rw [if_neg (by omega), if_pos (by omega), upd_s, show 6 * i + k - 6 * i = k by omega]
    · rw [upd_n h1]
      by_cases h2 : 6 * i + k ≤ q ∧ q < 6 * i + k + (n + 1)
      · rw [if_pos h2, if_pos (by omega)]
      · rw [if_neg h2, if_neg (by omega)]
theorem nst_gen {N : Nat} (hN : N ≤ 6) {h : Nat → Nat → Int32 → Int32} : ∀ n k (f : Nat → Int32) q, k + n = N → upn n k (fun i f => upn (N - (i + 1)) (i + 1) (fun j f => upd f (6 * i + j) (h i j (f (6 * i + j)))) f) f q = if k ≤ q / 6 ∧ q / 6 < q % 6 ∧ q % 6 < N then h (q / 6) (q % 6) (f q) else f q := by
  intro n
  induction n with
  | zero => intro k f q hk; rw [if_neg (by omega)]; rfl
  | succ n ih =>
    intro k f q hk
    show upn n (k + 1) _ (upn (N - (k + 1)) (k + 1) (fun j f => upd f (6 * k + j) (h k j (f (6 * k + j)))) f) q = _
    rw [ih (k + 1) _ q (by omega), nst_row]
    by_cases h1 : q / 6 = k ∧ k < q % 6 ∧ q % 6 < N
    · rw [if_neg (by omega), if_pos (by omega), if_pos (by omega)]
      rw [show q - 6 * k = q % 6 by omega, h1.1]
    · rw [if_neg (c := 6 * k + (k + 1) ≤ q ∧ q < 6 * k + (k + 1) + (N - (k + 1))) (by omega)]
      by_cases h2 : k + 1 ≤ q / 6 ∧ q / 6 < q % 6 ∧ q % 6 < N
      · rw [if_pos h2, if_pos (by omega)]
      · rw [if_neg h2, if_neg (by omega)]
theorem nst_at {N : Nat} (hN : N ≤ 6) {h : Nat → Nat → Int32 → Int32} (f : Nat → Int32) (q : Nat) : nst N h f q = if q / 6 < q % 6 ∧ q % 6 < N then h (q / 6) (q % 6) (f q) else f q := by
  unfold nst
  rw [nst_gen hN N 0 f q (by omega)]
  by_cases h1 : q / 6 < q % 6 ∧ q % 6 < N
  · rw [if_pos h1, if_pos (by omega)]
  · rw [if_neg h1, if_neg (by omega)]
def mLl1 (x : Int32) (f : Nat → Int32) (i j : Nat) (m : Int32) : Int32 := if sepP x i j then (if f (6 * i + j) < m then f (6 * i + j) else m) else m
def mLl2 (N : Nat) (x : Int32) (f : Nat → Int32) (i : Nat) (m : Int32) : Int32 := upn (N - (i + 1)) (i + 1) (mLl1 x f i) m
def mLl (N : Nat) (x : Int32) (f : Nat → Int32) : Int32 := upn N 0 (mLl2 N x f) (nI 999)
def mLe (N : Nat) (x b : Int32) (f : Nat → Int32) : Nat → Int32 := nst N (fun i j v => v - (if sepP x i j then b else nI 0)) f
abbrev mNo (N : Nat) (f : Nat → Int32) : Prop := ∀ i, i < N → ∀ j, j < N → i < j → f (6 * i + j) = 0
abbrev SR : Type := Nat × (Nat → Int32) × Nat
/-- the tries v, v - 1, .. 0 for the cut s; rec: what comes behind it. 0: none, 1: a sum, 2: spent -/
def skV (N s mo : Nat) (rec : (Nat → Int32) → (Nat → Int32) → Nat → SR) (f : Nat → Int32) : Nat → (Nat → Int32) → Nat → SR
  | 0, nu, tr => if tr = mo then (2, nu, tr) else rec (mLe N (nI s) (nI 0) f) (upd nu s (nI 0)) (tr + 1)
  | v + 1, nu, tr => if tr = mo then (2, nu, tr) else
      if (rec (mLe N (nI s) (nI (v + 1)) f) (upd nu s (nI (v + 1))) (tr + 1)).1 = 0 then
        skV N s mo rec f v (rec (mLe N (nI s) (nI (v + 1)) f) (upd nu s (nI (v + 1))) (tr + 1)).2.1 (rec (mLe N (nI s) (nI (v + 1)) f) (upd nu s (nI (v + 1))) (tr + 1)).2.2
      else rec (mLe N (nI s) (nI (v + 1)) f) (upd nu s (nI (v + 1))) (tr + 1)
def sk (N mo : Nat) : Nat → (Nat → Int32) → (Nat → Int32) → Nat → SR
  | 0, f, nu, tr => (if mNo N f then 1 else 0, nu, tr)
  | k + 1, f, nu, tr => skV N (lC N - k) mo (sk N mo k) f (mLl N (nI (lC N - k)) f).toInt.toNat nu tr
abbrev lfOk (N : Nat) (f : Nat → Int32) : Prop := ∀ i, i < N → ∀ j, j < N → i < j → 0 ≤ (f (6 * i + j)).toInt ∧ (f (6 * i + j)).toInt ≤ 999
theorem mLe_at {N : Nat} (hN : N ≤ 6) {x b : Int32} {f : Nat → Int32} {i j : Nat} (hij : i < j) (hj : j < N) : mLe N x b f (6 * i + j) = f (6 * i + j) - (if sepP x i j then b else nI 0) := by
  unfold mLe
  rw [nst_at hN, show (6 * i + j) / 6 = i by omega, show (6 * i + j) % 6 = j by omega, if_pos ⟨hij, hj⟩]
theorem i_subneg (a b : Int32) : a - b - -b = a := by
  rw [Int32.sub_eq_add_neg, Int32.sub_eq_add_neg, Int32.neg_neg, Int32.add_assoc, Int32.add_left_neg, Int32.add_zero]
theorem mLe_back {N : Nat} (hN : N ≤ 6) {x b : Int32} {f : Nat → Int32} : mLe N x (-b) (mLe N x b f) = f := by
  funext q
  unfold mLe
  rw [nst_at hN, nst_at hN]
  by_cases h : q / 6 < q % 6 ∧ q % 6 < N
  · rw [if_pos h, if_pos h]
    by_cases hs : sepP x (q / 6) (q % 6)
    · rw [if_pos hs, if_pos hs]; exact i_subneg _ _
    · rw [if_neg hs, if_neg hs, show nI 0 = 0 from rfl, Int32.sub_zero, Int32.sub_zero]
  · rw [if_neg h, if_neg h]
theorem mLl_spec {N : Nat} {x : Int32} {f : Nat → Int32} (hf : lfOk N f) : 0 ≤ (mLl N x f).toInt ∧ (mLl N x f).toInt ≤ 999 ∧ ∀ i, i < N → ∀ j, j < N → i < j → sepP x i j → (mLl N x f).toInt ≤ (f (6 * i + j)).toInt := by
  have row : ∀ i, i < N → ∀ n k m, k + n = N → i < k → 0 ≤ m.toInt → m.toInt ≤ 999 → 0 ≤ (upn n k (mLl1 x f i) m).toInt ∧ (upn n k (mLl1 x f i) m).toInt ≤ m.toInt ∧ ∀ j, k ≤ j → j < N → sepP x i j → (upn n k (mLl1 x f i) m).toInt ≤ (f (6 * i + j)).toInt := by
    intro i hi n
    induction n with
    | zero => intro k m hk _ h0 h9; exact ⟨h0, Int.le_refl _, fun j h1 h2 => by omega⟩
    | succ n ih =>
      intro k m hk hik h0 h9
      have hfk := hf i hi k (by omega) hik
      have hs : 0 ≤ (mLl1 x f i k m).toInt ∧ (mLl1 x f i k m).toInt ≤ m.toInt ∧ (sepP x i k → (mLl1 x f i k m).toInt ≤ (f (6 * i + k)).toInt) := by
        unfold mLl1
        by_cases c1 : sepP x i k
        · rw [if_pos c1]
          by_cases c2 : f (6 * i + k) < m
          · rw [if_pos c2]
            rw [iLt] at c2
            exact ⟨hfk.1, by omega, fun _ => Int.le_refl _⟩
          · rw [if_neg c2]
            rw [iLt] at c2
            exact ⟨h0, Int.le_refl _, fun _ => by omega⟩
        · rw [if_neg c1]
          exact ⟨h0, Int.le_refl _, fun q => absurd q c1⟩
      have := ih (k + 1) (mLl1 x f i k m) (by omega) (by omega) hs.1 (by omega)
      refine ⟨this.1, by have := this.2.1; show (upn n (k + 1) (mLl1 x f i) (mLl1 x f i k m)).toInt ≤ _; omega, fun j h1 h2 h3 => ?_⟩
      rcases Nat.lt_or_ge k j with h4 | h4
      · exact this.2.2 j h4 h2 h3
      · have : j = k := by omega
        subst this
        exact Int.le_trans (ih (j + 1) (mLl1 x f i j m) (by omega) (by omega) hs.1 (by omega)).2.1 (hs.2.2 h3)
  have all : ∀ n k m, k + n = N → 0 ≤ m.toInt → m.toInt ≤ 999 → 0 ≤ (upn n k (mLl2 N x f) m).toInt ∧ (upn n k (mLl2 N x f) m).toInt ≤ m.toInt ∧ ∀ i, k ≤ i → i < N → ∀ j, j < N → i < j → sepP x i j → (upn n k (mLl2 N x f) m).toInt ≤ (f (6 * i + j)).toInt := by
    intro n
    induction n with
    | zero => intro k m hk h0 h9; exact ⟨h0, Int.le_refl _, fun i h1 h2 => by omega⟩
    | succ n ih =>
      intro k m hk h0 h9
      have hr := row k (by omega) (N - (k + 1)) (k + 1) m (by omega) (by omega) h0 h9
      have h1 := ih (k + 1) (mLl2 N x f k m) (by omega) hr.1 (Int.le_trans hr.2.1 h9)
      refine ⟨h1.1, Int.le_trans h1.2.1 hr.2.1, fun i h2 h3 j h4 h5 h6 => ?_⟩
      rcases Nat.lt_or_ge k i with h7 | h7
      · exact h1.2.2 i h7 h3 j h4 h5 h6
      · have : i = k := by omega
        subst this
        exact Int.le_trans h1.2.1 (hr.2.2 j (by omega) h4 h6)
  have := all N 0 (nI 999) (by omega) (by decide) (by decide)
  exact ⟨this.1, this.2.1, fun i h1 => this.2.2 i (Nat.zero_le _) h1⟩
theorem i_sub_toInt {x y : Int32} (h : -2147483648 ≤ x.toInt - y.toInt) (h2 : x.toInt - y.toInt ≤ 2147483647) : (x - y).toInt = x.toInt - y.toInt := by
  rw [Int32.toInt_sub]
  exact Int.bmod_eq_of_le (by omega) (by omega)
theorem i_add_toInt {x y : Int32} (h : -2147483648 ≤ x.toInt + y.toInt) (h2 : x.toInt + y.toInt ≤ 2147483647) : (x + y).toInt = x.toInt + y.toInt := by
  rw [Int32.toInt_add]
  exact Int.bmod_eq_of_le (by omega) (by omega)
theorem mLe_ok {N : Nat} (hN : N ≤ 6) {x : Int32} {f : Nat → Int32} (hf : lfOk N f) {v : Nat} (hv : (v : Int) ≤ (mLl N x f).toInt) : lfOk N (mLe N x (nI v) f) := by
  intro i hi j hj hij
  rw [mLe_at hN hij hj]
  have h1 := hf i hi j hj hij
  have h2 := mLl_spec (x := x) hf
  by_cases hs : sepP x i j
  · rw [if_pos hs]
    have h3 := h2.2.2 i hi j hj hij hs
    have e : (nI v).toInt = v := nI_e (by omega)
    rw [i_sub_toInt (by rw [e]; omega) (by rw [e]; omega), e]
    omega
  · rw [if_neg hs, show nI 0 = 0 from rfl, Int32.sub_zero]
    exact h1
section MODEL10
variable {G : GT} {σ : Sto} {N D T : Nat} {z : Nat → Int32} {a : Nat → Nat → Int32} {tb : Nat → Int64}
theorem c_mLeastLeft (hN6 : N ≤ 6) {x : Int32} : ConP G mX10_leastLeft 3 [.ref (adr G 84), .int x] (putM G σ N D T z a tb) (rI (mLl N x (a 100)) (putM G σ N D T z a tb)) := by
  refine ConP.of rfl (Nat.le_of_ble_eq_true rfl) ?_
  refine k_sipush (pc' := 3) (v := nI 999) dX10_leastLeft_0 rfl ?_
  refine k_istore_n (pc' := 4) dX10_leastLeft_3 (Nat.le_of_ble_eq_true rfl) rfl ?_
  refine k_iconst (pc' := 5) (v := nI 0) dX10_leastLeft_4 rfl ?_
  refine k_istore_n (pc' := 6) dX10_leastLeft_5 (Nat.le_of_ble_eq_true rfl) rfl ?_
  refine loopU (fun i s => ∀ y, OkP G mX10_leastLeft 3 (rI (mLl N x (a 100)) (putM G σ N D T z a tb)) 6 [some (.ref (adr G 84)), some (.int x), some (.int s), some (.int (nI i)), y] [] (putM G σ N D T z a tb)) (mLl2 N x (a 100)) N 0 N (nI 999) (by omega) ?_ ?_ none
  · intro i s _ hi ih y
    refine k_iload_n (pc' := 7) dX10_leastLeft_6 rfl ?_
    refine k_aload_n (pc' := 8) dX10_leastLeft_7 rfl ?_
    refine p_get (pc' := 11) clX10 (Nat.le_of_ble_eq_true rfl) fl_RX10_9 dX10_leastLeft_8 (by first | assumption | decide | omega) (by first | rfl | assumption) rfl ?_
    refine k_icmp_ge (tgt := 67) (pc' := 14) dX10_leastLeft_11 rfl (fun zz_ => absurd zz_ (nI_ge (by omega) (by omega))) (fun _ => ?_)
    refine k_iload_n (pc' := 15) dX10_leastLeft_14 rfl ?_
    refine k_iconst (pc' := 16) (v := nI 1) dX10_leastLeft_15 rfl ?_
    refine k_iadd (pc' := 17) dX10_leastLeft_16 (by first | exact nI_add _ _ | rfl) ?_
    refine k_istore (pc' := 19) dX10_leastLeft_17 (Nat.le_of_ble_eq_true rfl) rfl ?_
    refine loopU (fun j s => OkP G mX10_leastLeft 3 (rI (mLl N x (a 100)) (putM G σ N D T z a tb)) 19 [some (.ref (adr G 84)), some (.int x), some (.int s), some (.int (nI i)), some (.int (nI j))] [] (putM G σ N D T z a tb)) (mLl1 x (a 100) i) N (i + 1) (N - (i + 1)) s (by omega) ?_ ?_
    · intro j s hij hj ih2
      unfold mLl1 at ih2
      by_cases hs : sepP x i j
      · rw [if_pos hs] at ih2
        refine k_iload (pc' := 21) dX10_leastLeft_19 rfl ?_
        refine k_aload_n (pc' := 22) dX10_leastLeft_21 rfl ?_
        refine p_get (pc' := 25) clX10 (Nat.le_of_ble_eq_true rfl) fl_RX10_9 dX10_leastLeft_22 (by first | assumption | decide | omega) (by first | rfl | assumption) rfl ?_
        refine k_icmp_ge (tgt := 61) (pc' := 28) dX10_leastLeft_25 rfl (fun zz_ => absurd zz_ (nI_ge (by omega) (by omega))) (fun _ => ?_)
        refine k_iload_n (pc' := 29) dX10_leastLeft_28 rfl ?_
        refine k_iload_n (pc' := 30) dX10_leastLeft_29 rfl ?_
        refine k_iload (pc' := 32) dX10_leastLeft_30 rfl ?_
        refine p_sI (ν := mX10_separates) (pc' := 35) dX10_leastLeft_32 ml_RX10_129 mo_X10_separates ms_X10_separates (Nat.le_of_ble_eq_true rfl) rfl rfl (Nat.le_of_ble_eq_true rfl) (by decide) (c_separates (by omega) (by omega)) ?_
        refine k_if_eq (tgt := 55) (pc' := 38) dX10_leastLeft_35 rfl (fun zz_ => absurd zz_ (by rw [bI_eq]; exact fun q => q hs)) (fun _ => ?_)
        refine k_iload_n (pc' := 39) dX10_leastLeft_38 rfl ?_
        refine k_aload_n (pc' := 40) dX10_leastLeft_39 rfl ?_
        refine p_get (pc' := 43) clX10 (Nat.le_of_ble_eq_true rfl) fl_RX10_62 dX10_leastLeft_40 (by first | assumption | decide | omega) (by first | rfl | assumption) rfl ?_
        refine k_bipush (pc' := 45) (v := nI 6) dX10_leastLeft_43 rfl ?_
        refine k_iload_n (pc' := 46) dX10_leastLeft_45 rfl ?_
        refine k_imul (pc' := 47) dX10_leastLeft_46 (by first | exact pk_mul _ _ | rfl) ?_
        refine k_iload (pc' := 49) dX10_leastLeft_47 rfl ?_
        refine k_iadd (pc' := 50) dX10_leastLeft_49 (by first | exact nI_add _ _ | rfl) ?_
        refine p_ialdN (pc' := 51) dX10_leastLeft_50 (by first | assumption | decide | omega) (by first | rfl | assumption) (by first | decide | omega) (by first | omega | (simp only [mL85, mL86, mL87, mL88, mL89, mL90, mL91, mL92, mL93, mL94, mL95, mL96, mL97, mL98, mL100, mL101, mL102, mL103]; omega)) ?_
        refine p_min (pc' := 54) (v := (if a 100 (6 * i + j) < s then a 100 (6 * i + j) else s)) dX10_leastLeft_51 ml_RX10_203 (by decide) (Nat.le_of_ble_eq_true rfl) rfl ?_
        refine k_istore_n (pc' := 55) dX10_leastLeft_54 (Nat.le_of_ble_eq_true rfl) rfl ?_
        refine k_iinc (pc' := 58) (v := nI (j + 1)) dX10_leastLeft_55 rfl (nI_inc _) (Nat.le_of_ble_eq_true rfl) rfl ?_
        refine k_goto (tgt := 19) dX10_leastLeft_58 rfl ?_
        exact ih2
      · rw [if_neg hs] at ih2
        refine k_iload (pc' := 21) dX10_leastLeft_19 rfl ?_
        refine k_aload_n (pc' := 22) dX10_leastLeft_21 rfl ?_
        refine p_get (pc' := 25) clX10 (Nat.le_of_ble_eq_true rfl) fl_RX10_9 dX10_leastLeft_22 (by first | assumption | decide | omega) (by first | rfl | assumption) rfl ?_
        refine k_icmp_ge (tgt := 61) (pc' := 28) dX10_leastLeft_25 rfl (fun zz_ => absurd zz_ (nI_ge (by omega) (by omega))) (fun _ => ?_)
        refine k_iload_n (pc' := 29) dX10_leastLeft_28 rfl ?_
        refine k_iload_n (pc' := 30) dX10_leastLeft_29 rfl ?_
        refine k_iload (pc' := 32) dX10_leastLeft_30 rfl ?_
        refine p_sI (ν := mX10_separates) (pc' := 35) dX10_leastLeft_32 ml_RX10_129 mo_X10_separates ms_X10_separates (Nat.le_of_ble_eq_true rfl) rfl rfl (Nat.le_of_ble_eq_true rfl) (by decide) (c_separates (by omega) (by omega)) ?_
        refine k_if_eq (tgt := 55) (pc' := 38) dX10_leastLeft_35 rfl (fun _ => ?_) (fun zz_ => absurd (by rw [bI_eq]; exact hs) zz_)
        refine k_iinc (pc' := 58) (v := nI (j + 1)) dX10_leastLeft_55 rfl (nI_inc _) (Nat.le_of_ble_eq_true rfl) rfl ?_
        refine k_goto (tgt := 19) dX10_leastLeft_58 rfl ?_
        exact ih2
    · refine k_iload (pc' := 21) dX10_leastLeft_19 rfl ?_
      refine k_aload_n (pc' := 22) dX10_leastLeft_21 rfl ?_
      refine p_get (pc' := 25) clX10 (Nat.le_of_ble_eq_true rfl) fl_RX10_9 dX10_leastLeft_22 (by first | assumption | decide | omega) (by first | rfl | assumption) rfl ?_
      refine k_icmp_ge (tgt := 61) (pc' := 28) dX10_leastLeft_25 rfl (fun _ => ?_) (fun zz_ => absurd (nI_le (by omega) (by omega)) zz_)
      refine k_iinc (pc' := 64) (v := nI (i + 1)) dX10_leastLeft_61 rfl (nI_inc _) (Nat.le_of_ble_eq_true rfl) rfl ?_
      refine k_goto (tgt := 6) dX10_leastLeft_64 rfl ?_
      exact ih _
  · intro y
    refine k_iload_n (pc' := 7) dX10_leastLeft_6 rfl ?_
    refine k_aload_n (pc' := 8) dX10_leastLeft_7 rfl ?_
    refine p_get (pc' := 11) clX10 (Nat.le_of_ble_eq_true rfl) fl_RX10_9 dX10_leastLeft_8 (by first | assumption | decide | omega) (by first | rfl | assumption) rfl ?_
    refine k_icmp_ge (tgt := 67) (pc' := 14) dX10_leastLeft_11 rfl (fun _ => ?_) (fun zz_ => absurd (nI_le (by omega) (by omega)) zz_)
    refine k_iload_n (pc' := 68) dX10_leastLeft_67 rfl ?_
    refine p_ireturn dX10_leastLeft_68 rfl ?_
    exact ⟨rfl, rfl⟩
theorem c_lessens (hN6 : N ≤ 6) {x w : Int32} : ConP G mX10_lessens 3 [.ref (adr G 84), .int x, .int w] (putM G σ N D T z a tb) (rV (putM G σ N D T z (va_up a 100 (mLe N x w (a 100))) tb)) := by
  refine ConP.of rfl (Nat.le_of_ble_eq_true rfl) ?_
  refine k_iconst (pc' := 1) (v := nI 0) dX10_lessens_0 rfl ?_
  refine k_istore_n (pc' := 2) dX10_lessens_1 (Nat.le_of_ble_eq_true rfl) rfl ?_
  have key := loopU (fun i f => ∀ y, OkP G mX10_lessens 3 (rV (putM G σ N D T z (va_up a 100 (mLe N x w (a 100))) tb)) 2 [some (.ref (adr G 84)), some (.int x), some (.int w), some (.int (nI i)), y] [] (putM G σ N D T z (va_up a 100 f) tb)) (fun i f => upn (N - (i + 1)) (i + 1) (fun j f => upd f (6 * i + j) (f (6 * i + j) - (if sepP x i j then w else nI 0))) f) N 0 N (a 100) (by omega) ?_ ?_ none
  · rw [up_id rfl] at key
    exact key
  · intro i f _ hi ih y
    refine k_iload_n (pc' := 3) dX10_lessens_2 rfl ?_
    refine k_aload_n (pc' := 4) dX10_lessens_3 rfl ?_
    refine p_get (pc' := 7) clX10 (Nat.le_of_ble_eq_true rfl) fl_RX10_9 dX10_lessens_4 (by first | assumption | decide | omega) (by first | rfl | assumption) rfl ?_
    refine k_icmp_ge (tgt := 66) (pc' := 10) dX10_lessens_7 rfl (fun zz_ => absurd zz_ (nI_ge (by omega) (by omega))) (fun _ => ?_)
    refine k_iload_n (pc' := 11) dX10_lessens_10 rfl ?_
    refine k_iconst (pc' := 12) (v := nI 1) dX10_lessens_11 rfl ?_
    refine k_iadd (pc' := 13) dX10_lessens_12 (by first | exact nI_add _ _ | rfl) ?_
    refine k_istore (pc' := 15) dX10_lessens_13 (Nat.le_of_ble_eq_true rfl) rfl ?_
    refine loopU (fun j f => OkP G mX10_lessens 3 (rV (putM G σ N D T z (va_up a 100 (mLe N x w (a 100))) tb)) 15 [some (.ref (adr G 84)), some (.int x), some (.int w), some (.int (nI i)), some (.int (nI j))] [] (putM G σ N D T z (va_up a 100 f) tb)) (fun j f => upd f (6 * i + j) (f (6 * i + j) - (if sepP x i j then w else nI 0))) N (i + 1) (N - (i + 1)) f (by omega) ?_ ?_
    · intro j f hij hj ih2
      by_cases hs : sepP x i j
      · rw [if_pos hs] at ih2
        refine k_iload (pc' := 17) dX10_lessens_15 rfl ?_
        refine k_aload_n (pc' := 18) dX10_lessens_17 rfl ?_
        refine p_get (pc' := 21) clX10 (Nat.le_of_ble_eq_true rfl) fl_RX10_9 dX10_lessens_18 (by first | assumption | decide | omega) (by first | rfl | assumption) rfl ?_
        refine k_icmp_ge (tgt := 60) (pc' := 24) dX10_lessens_21 rfl (fun zz_ => absurd zz_ (nI_ge (by omega) (by omega))) (fun _ => ?_)
        refine k_aload_n (pc' := 25) dX10_lessens_24 rfl ?_
        refine p_get (pc' := 28) clX10 (Nat.le_of_ble_eq_true rfl) fl_RX10_62 dX10_lessens_25 (by first | assumption | decide | omega) (by first | rfl | assumption) rfl ?_
        refine k_bipush (pc' := 30) (v := nI 6) dX10_lessens_28 rfl ?_
        refine k_iload_n (pc' := 31) dX10_lessens_30 rfl ?_
        refine k_imul (pc' := 32) dX10_lessens_31 (by first | exact pk_mul _ _ | rfl) ?_
        refine k_iload (pc' := 34) dX10_lessens_32 rfl ?_
        refine k_iadd (pc' := 35) dX10_lessens_34 (by first | exact nI_add _ _ | rfl) ?_
        refine k_dup2 (pc' := 36) dX10_lessens_35 rfl rfl ?_
        refine p_ialdN (pc' := 37) dX10_lessens_36 (by first | assumption | decide | omega) (by first | rfl | assumption) (by first | decide | omega) (by first | omega | (simp only [mL85, mL86, mL87, mL88, mL89, mL90, mL91, mL92, mL93, mL94, mL95, mL96, mL97, mL98, mL100, mL101, mL102, mL103]; omega)) ?_
        refine k_iload_n (pc' := 38) dX10_lessens_37 rfl ?_
        refine k_iload_n (pc' := 39) dX10_lessens_38 rfl ?_
        refine k_iload (pc' := 41) dX10_lessens_39 rfl ?_
        refine p_sI (ν := mX10_separates) (pc' := 44) dX10_lessens_41 ml_RX10_129 mo_X10_separates ms_X10_separates (Nat.le_of_ble_eq_true rfl) rfl rfl (Nat.le_of_ble_eq_true rfl) (by decide) (c_separates (by omega) (by omega)) ?_
        refine k_if_eq (tgt := 51) (pc' := 47) dX10_lessens_44 rfl (fun zz_ => absurd zz_ (by rw [bI_eq]; exact fun q => q hs)) (fun _ => ?_)
        refine k_iload_n (pc' := 48) dX10_lessens_47 rfl ?_
        refine k_goto (tgt := 52) dX10_lessens_48 rfl ?_
        refine k_isub (pc' := 53) (v := f (6 * i + j) - w) dX10_lessens_52 rfl ?_
        refine p_iastN (pc' := 54) (σ1 := putM G σ N D T z (va_up a 100 (upd f (6 * i + j) (f (6 * i + j) - w))) tb) dX10_lessens_53 (by first | assumption | decide | omega) (by first | rfl | assumption) (by first | decide | omega) (by first | omega | (simp only [mL85, mL86, mL87, mL88, mL89, mL90, mL91, mL92, mL93, mL94, mL95, mL96, mL97, mL98, mL100, mL101, mL102, mL103]; omega)) (by exact (by rw [pMa (by decide), up_up]; rfl)) ?_
        refine k_iinc (pc' := 57) (v := nI (j + 1)) dX10_lessens_54 rfl (nI_inc _) (Nat.le_of_ble_eq_true rfl) rfl ?_
        refine k_goto (tgt := 15) dX10_lessens_57 rfl ?_
        exact ih2
      · rw [if_neg hs] at ih2
        refine k_iload (pc' := 17) dX10_lessens_15 rfl ?_
        refine k_aload_n (pc' := 18) dX10_lessens_17 rfl ?_
        refine p_get (pc' := 21) clX10 (Nat.le_of_ble_eq_true rfl) fl_RX10_9 dX10_lessens_18 (by first | assumption | decide | omega) (by first | rfl | assumption) rfl ?_
        refine k_icmp_ge (tgt := 60) (pc' := 24) dX10_lessens_21 rfl (fun zz_ => absurd zz_ (nI_ge (by omega) (by omega))) (fun _ => ?_)
        refine k_aload_n (pc' := 25) dX10_lessens_24 rfl ?_
        refine p_get (pc' := 28) clX10 (Nat.le_of_ble_eq_true rfl) fl_RX10_62 dX10_lessens_25 (by first | assumption | decide | omega) (by first | rfl | assumption) rfl ?_
        refine k_bipush (pc' := 30) (v := nI 6) dX10_lessens_28 rfl ?_
        refine k_iload_n (pc' := 31) dX10_lessens_30 rfl ?_
        refine k_imul (pc' := 32) dX10_lessens_31 (by first | exact pk_mul _ _ | rfl) ?_
        refine k_iload (pc' := 34) dX10_lessens_32 rfl ?_
        refine k_iadd (pc' := 35) dX10_lessens_34 (by first | exact nI_add _ _ | rfl) ?_
        refine k_dup2 (pc' := 36) dX10_lessens_35 rfl rfl ?_
        refine p_ialdN (pc' := 37) dX10_lessens_36 (by first | assumption | decide | omega) (by first | rfl | assumption) (by first | decide | omega) (by first | omega | (simp only [mL85, mL86, mL87, mL88, mL89, mL90, mL91, mL92, mL93, mL94, mL95, mL96, mL97, mL98, mL100, mL101, mL102, mL103]; omega)) ?_
        refine k_iload_n (pc' := 38) dX10_lessens_37 rfl ?_
        refine k_iload_n (pc' := 39) dX10_lessens_38 rfl ?_
        refine k_iload (pc' := 41) dX10_lessens_39 rfl ?_
        refine p_sI (ν := mX10_separates) (pc' := 44) dX10_lessens_41 ml_RX10_129 mo_X10_separates ms_X10_separates (Nat.le_of_ble_eq_true rfl) rfl rfl (Nat.le_of_ble_eq_true rfl) (by decide) (c_separates (by omega) (by omega)) ?_
        refine k_if_eq (tgt := 51) (pc' := 47) dX10_lessens_44 rfl (fun _ => ?_) (fun zz_ => absurd (by rw [bI_eq]; exact hs) zz_)
        refine k_iconst (pc' := 52) (v := nI 0) dX10_lessens_51 rfl ?_
        refine k_isub (pc' := 53) (v := f (6 * i + j) - nI 0) dX10_lessens_52 rfl ?_
        refine p_iastN (pc' := 54) (σ1 := putM G σ N D T z (va_up a 100 (upd f (6 * i + j) (f (6 * i + j) - nI 0))) tb) dX10_lessens_53 (by first | assumption | decide | omega) (by first | rfl | assumption) (by first | decide | omega) (by first | omega | (simp only [mL85, mL86, mL87, mL88, mL89, mL90, mL91, mL92, mL93, mL94, mL95, mL96, mL97, mL98, mL100, mL101, mL102, mL103]; omega)) (by exact (by rw [pMa (by decide), up_up]; rfl)) ?_
        refine k_iinc (pc' := 57) (v := nI (j + 1)) dX10_lessens_54 rfl (nI_inc _) (Nat.le_of_ble_eq_true rfl) rfl ?_
        refine k_goto (tgt := 15) dX10_lessens_57 rfl ?_
        exact ih2
    · refine k_iload (pc' := 17) dX10_lessens_15 rfl ?_
      refine k_aload_n (pc' := 18) dX10_lessens_17 rfl ?_
      refine p_get (pc' := 21) clX10 (Nat.le_of_ble_eq_true rfl) fl_RX10_9 dX10_lessens_18 (by first | assumption | decide | omega) (by first | rfl | assumption) rfl ?_
      refine k_icmp_ge (tgt := 60) (pc' := 24) dX10_lessens_21 rfl (fun _ => ?_) (fun zz_ => absurd (nI_le (by omega) (by omega)) zz_)
      refine k_iinc (pc' := 63) (v := nI (i + 1)) dX10_lessens_60 rfl (nI_inc _) (Nat.le_of_ble_eq_true rfl) rfl ?_
      refine k_goto (tgt := 2) dX10_lessens_63 rfl ?_
      exact ih _
  · intro y
    refine k_iload_n (pc' := 3) dX10_lessens_2 rfl ?_
    refine k_aload_n (pc' := 4) dX10_lessens_3 rfl ?_
    refine p_get (pc' := 7) clX10 (Nat.le_of_ble_eq_true rfl) fl_RX10_9 dX10_lessens_4 (by first | assumption | decide | omega) (by first | rfl | assumption) rfl ?_
    refine k_icmp_ge (tgt := 66) (pc' := 10) dX10_lessens_7 rfl (fun _ => ?_) (fun zz_ => absurd (nI_le (by omega) (by omega)) zz_)
    refine p_return dX10_lessens_66 rfl ?_
    exact ⟨rfl, rfl⟩
theorem c_isNothing (hN6 : N ≤ 6) : ConP G mX10_isNothing 1 [.ref (adr G 84)] (putM G σ N D T z a tb) (rI (bI (mNo N (a 100))) (putM G σ N D T z a tb)) := by
  refine ConP.of rfl (Nat.le_of_ble_eq_true rfl) ?_
  refine k_iconst (pc' := 1) (v := nI 0) dX10_isNothing_0 rfl ?_
  refine k_istore_n (pc' := 2) dX10_isNothing_1 (Nat.le_of_ble_eq_true rfl) rfl ?_
  have look : ∀ n i, i + n = N → (∀ i', i' < i → ∀ j, j < N → i' < j → a 100 (6 * i' + j) = 0) → ∀ y, OkP G mX10_isNothing 1 (rI (bI (mNo N (a 100))) (putM G σ N D T z a tb)) 2 [some (.ref (adr G 84)), some (.int (nI i)), y] [] (putM G σ N D T z a tb) := by
    intro n
    induction n with
    | zero =>
      intro i hi hp y
      refine k_iload_n (pc' := 3) dX10_isNothing_2 rfl ?_
      refine k_aload_n (pc' := 4) dX10_isNothing_3 rfl ?_
      refine p_get (pc' := 7) clX10 (Nat.le_of_ble_eq_true rfl) fl_RX10_9 dX10_isNothing_4 (by first | assumption | decide | omega) (by first | rfl | assumption) rfl ?_
      refine k_icmp_ge (tgt := 50) (pc' := 10) dX10_isNothing_7 rfl (fun _ => ?_) (fun zz_ => absurd (nI_le (by omega) (by omega)) zz_)
      refine k_iconst (pc' := 51) (v := nI 1) dX10_isNothing_50 rfl ?_
      refine p_zreturn dX10_isNothing_51 rfl (by first | exact Or.inl rfl | exact Or.inr rfl) ?_
      exact ⟨by rw [bI_t (fun i' h => hp i' (by omega))]; rfl, rfl⟩
    | succ n ih =>
      intro i hi hp y
      refine k_iload_n (pc' := 3) dX10_isNothing_2 rfl ?_
      refine k_aload_n (pc' := 4) dX10_isNothing_3 rfl ?_
      refine p_get (pc' := 7) clX10 (Nat.le_of_ble_eq_true rfl) fl_RX10_9 dX10_isNothing_4 (by first | assumption | decide | omega) (by first | rfl | assumption) rfl ?_
      refine k_icmp_ge (tgt := 50) (pc' := 10) dX10_isNothing_7 rfl (fun zz_ => absurd zz_ (nI_ge (by omega) (by omega))) (fun _ => ?_)
      refine k_iload_n (pc' := 11) dX10_isNothing_10 rfl ?_
      refine k_iconst (pc' := 12) (v := nI 1) dX10_isNothing_11 rfl ?_
      refine k_iadd (pc' := 13) dX10_isNothing_12 (by first | exact nI_add _ _ | rfl) ?_
      refine k_istore_n (pc' := 14) dX10_isNothing_13 (Nat.le_of_ble_eq_true rfl) rfl ?_
      have inner : ∀ m j, j + m = N → i < j → (∀ j', j' < j → i < j' → a 100 (6 * i + j') = 0) → OkP G mX10_isNothing 1 (rI (bI (mNo N (a 100))) (putM G σ N D T z a tb)) 14 [some (.ref (adr G 84)), some (.int (nI i)), some (.int (nI j))] [] (putM G σ N D T z a tb) := by
        intro m
        induction m with
        | zero =>
          intro j hj hij hq
          refine k_iload_n (pc' := 15) dX10_isNothing_14 rfl ?_
          refine k_aload_n (pc' := 16) dX10_isNothing_15 rfl ?_
          refine p_get (pc' := 19) clX10 (Nat.le_of_ble_eq_true rfl) fl_RX10_9 dX10_isNothing_16 (by first | assumption | decide | omega) (by first | rfl | assumption) rfl ?_
          refine k_icmp_ge (tgt := 44) (pc' := 22) dX10_isNothing_19 rfl (fun _ => ?_) (fun zz_ => absurd (nI_le (by omega) (by omega)) zz_)
          refine k_iinc (pc' := 47) (v := nI (i + 1)) dX10_isNothing_44 rfl (nI_inc _) (Nat.le_of_ble_eq_true rfl) rfl ?_
          refine k_goto (tgt := 2) dX10_isNothing_47 rfl ?_
          refine ih (i + 1) (by omega) (fun i' h => ?_) _
          rcases Nat.lt_or_ge i' i with h2 | h2
          · exact hp i' h2
          · have : i' = i := by omega
            subst this
            exact fun j' h3 => hq j' (by omega)
        | succ m ihm =>
          intro j hj hij hq
          by_cases hz : a 100 (6 * i + j) = 0
          · refine k_iload_n (pc' := 15) dX10_isNothing_14 rfl ?_
            refine k_aload_n (pc' := 16) dX10_isNothing_15 rfl ?_
            refine p_get (pc' := 19) clX10 (Nat.le_of_ble_eq_true rfl) fl_RX10_9 dX10_isNothing_16 (by first | assumption | decide | omega) (by first | rfl | assumption) rfl ?_
            refine k_icmp_ge (tgt := 44) (pc' := 22) dX10_isNothing_19 rfl (fun zz_ => absurd zz_ (nI_ge (by omega) (by omega))) (fun _ => ?_)
            refine k_aload_n (pc' := 23) dX10_isNothing_22 rfl ?_
            refine p_get (pc' := 26) clX10 (Nat.le_of_ble_eq_true rfl) fl_RX10_62 dX10_isNothing_23 (by first | assumption | decide | omega) (by first | rfl | assumption) rfl ?_
            refine k_bipush (pc' := 28) (v := nI 6) dX10_isNothing_26 rfl ?_
            refine k_iload_n (pc' := 29) dX10_isNothing_28 rfl ?_
            refine k_imul (pc' := 30) dX10_isNothing_29 (by first | exact pk_mul _ _ | rfl) ?_
            refine k_iload_n (pc' := 31) dX10_isNothing_30 rfl ?_
            refine k_iadd (pc' := 32) dX10_isNothing_31 (by first | exact nI_add _ _ | rfl) ?_
            refine p_ialdN (pc' := 33) dX10_isNothing_32 (by first | assumption | decide | omega) (by first | rfl | assumption) (by first | decide | omega) (by first | omega | (simp only [mL85, mL86, mL87, mL88, mL89, mL90, mL91, mL92, mL93, mL94, mL95, mL96, mL97, mL98, mL100, mL101, mL102, mL103]; omega)) ?_
            refine k_if_eq (tgt := 38) (pc' := 36) dX10_isNothing_33 rfl (fun _ => ?_) (fun zz_ => absurd hz zz_)
            refine k_iinc (pc' := 41) (v := nI (j + 1)) dX10_isNothing_38 rfl (nI_inc _) (Nat.le_of_ble_eq_true rfl) rfl ?_
            refine k_goto (tgt := 14) dX10_isNothing_41 rfl ?_
            refine ihm (j + 1) (by omega) (by omega) (fun j' h => ?_)
            rcases Nat.lt_or_ge j' j with h2 | h2
            · exact hq j' h2
            · have : j' = j := by omega
              subst this
              exact fun _ => hz
          · refine k_iload_n (pc' := 15) dX10_isNothing_14 rfl ?_
            refine k_aload_n (pc' := 16) dX10_isNothing_15 rfl ?_
            refine p_get (pc' := 19) clX10 (Nat.le_of_ble_eq_true rfl) fl_RX10_9 dX10_isNothing_16 (by first | assumption | decide | omega) (by first | rfl | assumption) rfl ?_
            refine k_icmp_ge (tgt := 44) (pc' := 22) dX10_isNothing_19 rfl (fun zz_ => absurd zz_ (nI_ge (by omega) (by omega))) (fun _ => ?_)
            refine k_aload_n (pc' := 23) dX10_isNothing_22 rfl ?_
            refine p_get (pc' := 26) clX10 (Nat.le_of_ble_eq_true rfl) fl_RX10_62 dX10_isNothing_23 (by first | assumption | decide | omega) (by first | rfl | assumption) rfl ?_
            refine k_bipush (pc' := 28) (v := nI 6) dX10_isNothing_26 rfl ?_
            refine k_iload_n (pc' := 29) dX10_isNothing_28 rfl ?_
            refine k_imul (pc' := 30) dX10_isNothing_29 (by first | exact pk_mul _ _ | rfl) ?_
            refine k_iload_n (pc' := 31) dX10_isNothing_30 rfl ?_
            refine k_iadd (pc' := 32) dX10_isNothing_31 (by first | exact nI_add _ _ | rfl) ?_
            refine p_ialdN (pc' := 33) dX10_isNothing_32 (by first | assumption | decide | omega) (by first | rfl | assumption) (by first | decide | omega) (by first | omega | (simp only [mL85, mL86, mL87, mL88, mL89, mL90, mL91, mL92, mL93, mL94, mL95, mL96, mL97, mL98, mL100, mL101, mL102, mL103]; omega)) ?_
            refine k_if_eq (tgt := 38) (pc' := 36) dX10_isNothing_33 rfl (fun zz_ => absurd zz_ hz) (fun _ => ?_)
            refine k_iconst (pc' := 37) (v := nI 0) dX10_isNothing_36 rfl ?_
            refine p_zreturn dX10_isNothing_37 rfl (by first | exact Or.inl rfl | exact Or.inr rfl) ?_
            exact ⟨by rw [bI_f (fun q => hz (q i (by omega) j (by omega) hij))]; rfl, rfl⟩
      exact inner (N - (i + 1)) (i + 1) (by omega) (by omega) (fun j' h1 h2 => by omega)
  exact look N 0 (by omega) (fun i' h => by omega) none
end MODEL10
