/-! gauges: ints against longs -/
theorem dbl_relI {α β : Type} (R : Nat → α → β → Prop) {N : Nat} {f : Nat → Nat → α → α} {g : Nat → Nat → β → β} {a : α} {b : β} (h6 : N ≤ 6) (mono : ∀ n m a b, n ≤ m → R n a b → R m a b) (hs : ∀ i j n a b, n < 36 → i < j → j < N → R n a b → R (n + 1) (f i j a) (g i j b)) (h : R 0 a b) : R 36 (dbl N f a) (dbl N g b) := by
  have key := upn_relI (fun i a b => R (6 * i) a b) (f := fun i a => upn (N - (i + 1)) (i + 1) (f i) a) (g := fun i a => upn (N - (i + 1)) (i + 1) (g i) a) N 0 a b ?_ h
  · exact mono _ _ _ _ (by omega) key
  · intro i a b _ hi hr
    have k2 := upn_relI (fun j a b => R (6 * i + j) a b) (f := f i) (g := g i) (N - (i + 1)) (i + 1) a b ?_ (mono _ _ _ _ (by omega) hr)
    · exact mono _ _ _ _ (by omega) k2
    · intro j a b h1 h2 hr
      exact hs i j (6 * i + j) a b (by omega) (by omega) (by omega) hr
theorem bm64 {z : Int} (h1 : -9223372036854775808 ≤ z) (h2 : z < 9223372036854775808) : z.bmod 18446744073709551616 = z := by
  unfold Int.bmod
  dsimp only
  omega
theorem bm32 {z : Int} (h1 : -2147483648 ≤ z) (h2 : z < 2147483648) : z.bmod 4294967296 = z := by
  unfold Int.bmod
  dsimp only
  omega
theorem l_e {x : Int32} : x.toInt64.toInt = x.toInt := i2l_e x
theorem lEq {x y : Int64} : x = y ↔ x.toInt = y.toInt := Int64.toInt_inj.symm
theorem l_add {a b : Nat} (h : a + b < 2 ^ 31) : (nI a).toInt64 + (nI b).toInt64 = (nI (a + b)).toInt64 := by
  rw [lEq, Int64.toInt_add, l_e, l_e, l_e, nI_e (by omega), nI_e (by omega), nI_e h, bm64 (by omega) (by omega)]
  omega
/-- the bits of both -/
def gaC (m i j : Nat) : Bool := decide (((nI m >>> (nI i &&& 31) &&& nI m >>> (nI j &&& 31)) &&& nI 1) = if gaB (nI m) i j = nI 2 then nI 1 else nI 0) && decide (((nI m >>> (nI i &&& 31) ^^^ nI m >>> (nI j &&& 31)) &&& nI 1) = if gaB (nI m) i j = nI 1 then nI 1 else nI 0)
theorem gaC_ok : ∀ m, m < 64 → ∀ i, i < 6 → ∀ j, j < 6 → gaC m i j = true := by decide +kernel
theorem gaC_1 {m i j : Nat} (hm : m < 64) (hi : i < 6) (hj : j < 6) : (((nI m >>> (nI i &&& 31) &&& nI m >>> (nI j &&& 31)) &&& nI 1) = if gaB (nI m) i j = nI 2 then nI 1 else nI 0) ∧ (((nI m >>> (nI i &&& 31) ^^^ nI m >>> (nI j &&& 31)) &&& nI 1) = if gaB (nI m) i j = nI 1 then nI 1 else nI 0) := by
  have h := gaC_ok m hm i hi j hj
  unfold gaC at h
  rw [Bool.and_eq_true, decide_eq_true_eq, decide_eq_true_eq] at h
  exact h
section GAUGE
variable {N : Nat} {far f : Nat → Int32}
theorem inB_val (h6 : N ≤ 6) (hb : inB N far) {a b : Nat} (hab : a < b) (hb' : b < N) : ∃ d, d ≤ 999 ∧ dT N far a b = nI d := by
  rw [dT_lt (by omega) hb' (by omega)]
  have := hb _ (pI_lt0 N (by omega) a (by omega) b hb' (by omega)).1
  obtain ⟨d, hd, e⟩ := nI_in0 (n := 1000) (x := far (pI N a b)) this.1 (by omega) (by decide)
  exact ⟨d, by omega, e⟩
def RG (k : L3 → Int64) (n : Nat) (s : Int32) (t : L3) : Prop := ∃ c, c ≤ 999 * n ∧ s = nI c ∧ k t = (nI c).toInt64
theorem RG.mono {k : L3 → Int64} (n m : Nat) (s : Int32) (t : L3) (h : n ≤ m) (hr : RG k n s t) : RG k m s t := by
  obtain ⟨c, hc, e⟩ := hr
  exact ⟨c, Nat.le_trans hc (Nat.mul_le_mul_left _ h), e⟩
theorem r_and {m : Nat} (h6 : N ≤ 6) (hm : m < 64) (hb : inB N far) (h : FR N far f) : RG (fun t => t.1) 36 (xGa (· &&& ·) N (nI m) far) (mGa N (nI m) f) := by
  refine dbl_relI (RG (fun t => t.1)) (f := fun i j s => xGa1 (· &&& ·) N (nI m) far i j s) (g := fun i j s => mGa1 (nI m) f i j s) h6 RG.mono (fun i j n s t hn h1 h2 hr => ?_) ⟨0, by omega, rfl, rfl⟩
  obtain ⟨c, hc, e1, e2⟩ := hr
  obtain ⟨d, hd, e3⟩ := inB_val h6 hb h1 h2
  unfold xGa1 mGa1
  dsimp only at e2 ⊢
  rw [(gaC_1 hm (by omega) (by omega)).1, h i (by omega) j h2, e3]
  by_cases q : gaB (nI m) i j = nI 2
  · rw [if_pos q, if_pos q, show nI 1 * nI d = nI d from Int32.one_mul _, e1, nI_add]
    refine ⟨c + d, by omega, rfl, ?_⟩
    dsimp only
    rw [e2]
    exact l_add (by omega)
  · rw [if_neg q, if_neg q, show nI 0 * nI d = 0 from Int32.zero_mul, Int32.add_zero]
    refine ⟨c, by omega, e1, ?_⟩
    dsimp only
    rw [e2, Int64.add_zero]
theorem r_xor {m : Nat} (h6 : N ≤ 6) (hm : m < 64) (hb : inB N far) (h : FR N far f) : RG (fun t => t.2.1) 36 (xGa (· ^^^ ·) N (nI m) far) (mGa N (nI m) f) := by
  refine dbl_relI (RG (fun t => t.2.1)) (f := fun i j s => xGa1 (· ^^^ ·) N (nI m) far i j s) (g := fun i j s => mGa1 (nI m) f i j s) h6 RG.mono (fun i j n s t hn h1 h2 hr => ?_) ⟨0, by omega, rfl, rfl⟩
  obtain ⟨c, hc, e1, e2⟩ := hr
  obtain ⟨d, hd, e3⟩ := inB_val h6 hb h1 h2
  unfold xGa1 mGa1
  dsimp only at e2 ⊢
  rw [(gaC_1 hm (by omega) (by omega)).2, h i (by omega) j h2, e3]
  by_cases q : gaB (nI m) i j = nI 1
  · rw [if_pos q, show nI 1 * nI d = nI d from Int32.one_mul _, e1, nI_add]
    refine ⟨c + d, by omega, rfl, ?_⟩
    dsimp only
    rw [if_pos q, e2]
    exact l_add (by omega)
  · rw [if_neg q, show nI 0 * nI d = 0 from Int32.zero_mul, Int32.add_zero]
    refine ⟨c, by omega, e1, ?_⟩
    dsimp only
    rw [if_neg q, e2, Int64.add_zero]
theorem r_max {m : Nat} (h6 : N ≤ 6) (hm : m < 64) (hb : inB N far) (h : FR N far f) : ∃ c, c ≤ 999 ∧ xMx N (nI m) far = nI c ∧ (mGa N (nI m) f).2.2 = (nI c).toInt64 := by
  refine dbl_rel (fun (s : Int32) (t : L3) => ∃ c, c ≤ 999 ∧ s = nI c ∧ t.2.2 = (nI c).toInt64) (f := fun i j s => xMx1 N (nI m) far i j s) (g := fun i j s => mGa1 (nI m) f i j s) (fun i j s t h1 h2 hr => ?_) ⟨0, by omega, rfl, rfl⟩
  obtain ⟨c, hc, e1, e2⟩ := hr
  obtain ⟨d, hd, e3⟩ := inB_val h6 hb h1 h2
  unfold xMx1 mGa1
  dsimp only
  rw [(gaC_1 hm (by omega) (by omega)).1, h i (by omega) j h2, e3, e1, e2]
  have lc : ∀ a b : Nat, a ≤ 999 → b ≤ 999 → ((nI a).toInt64 < (nI b).toInt64 ↔ a < b) := by
    intro a b ha hb
    rw [Int64.lt_iff_toInt_lt, l_e, l_e, nI_e (by omega), nI_e (by omega)]
    omega
  by_cases q : gaB (nI m) i j = nI 2
  · rw [if_pos q, if_pos q, show nI 1 * nI d = nI d from Int32.one_mul _]
    by_cases q2 : c < d
    · rw [if_pos (show nI c < nI d from nI_lt q2 (by omega)), if_neg (fun z => by rw [lc d c hd hc] at z; omega)]
      exact ⟨d, hd, rfl, rfl⟩
    · rw [if_neg (show ¬ nI c < nI d from nI_nlt (by omega) (by omega))]
      by_cases q3 : d < c
      · rw [if_pos (by rw [lc d c hd hc]; exact q3)]
        exact ⟨c, hc, rfl, rfl⟩
      · rw [if_neg (by rw [lc d c hd hc]; exact q3)]
        exact ⟨c, hc, rfl, by rw [show d = c by omega]⟩
  · rw [if_neg q, if_neg q, show nI 0 * nI d = 0 from Int32.zero_mul, if_neg (show ¬ nI c < 0 from by rw [iLt, i0, nI_e (by omega)]; omega)]
    exact ⟨c, hc, rfl, rfl⟩
theorem r_gauge {x y : Int32} (h6 : N ≤ 6) (hb : inB N far) (h : FR N far f) (hy0 : 0 ≤ y.toInt) (hy : y.toInt < (2 ^ N : Nat)) : (if x = 0 then xGa (· &&& ·) N y far else if x = 1 then nI 2 * xGa (· &&& ·) N y far else if x = 2 then xGa (· ^^^ ·) N y far - nI 2 * xGa (· &&& ·) N y far else if x = 3 then xMx N y far else xGa (· &&& ·) N y far - xMx N y far).toInt64 = (if x = 0 then (mGa N y f).1 else if x = 1 then 2 * (mGa N y f).1 else if x = 2 then (mGa N y f).2.1 - 2 * (mGa N y f).1 else if x = 3 then (mGa N y f).2.2 else (mGa N y f).1 - (mGa N y f).2.2) := by
  have h64 : 2 ^ N ≤ 2 ^ 6 := Nat.pow_le_pow_right (by decide) h6
  obtain ⟨m, hm, rfl⟩ := nI_in0 (n := 64) (x := y) hy0 (by omega) (by decide)
  obtain ⟨c0, l0, e0, f0⟩ := r_and h6 hm hb h
  obtain ⟨c1, l1, e1, f1⟩ := r_xor h6 hm hb h
  obtain ⟨c2, l2, e2, f2⟩ := r_max h6 hm hb h
  dsimp only at f0 f1
  have s32 : ∀ a b : Nat, a ≤ 100000 → b ≤ 100000 → (nI a - nI b).toInt = (a : Int) - b := by
    intro a b ha hb
    rw [Int32.toInt_sub, nI_e (by omega), nI_e (by omega), bm32 (by omega) (by omega)]
  have s64 : ∀ a b : Nat, a ≤ 100000 → b ≤ 100000 → ((nI a).toInt64 - (nI b).toInt64).toInt = (a : Int) - b := by
    intro a b ha hb
    rw [Int64.toInt_sub, l_e, l_e, nI_e (by omega), nI_e (by omega), bm64 (by omega) (by omega)]
  have m64 : ∀ a : Nat, a ≤ 100000 → 2 * (nI a).toInt64 = (nI (2 * a)).toInt64 := by
    intro a ha
    rw [lEq, Int64.toInt_mul, l_e, l_e, nI_e (by omega), nI_e (by omega), show (2 : Int64).toInt = 2 from rfl, bm64 (by omega) (by omega)]
    omega
  rw [e0, e1, e2, f0, f1, f2, show nI 2 * nI c0 = nI (2 * c0) from pk_mul _ _, m64 c0 (by omega)]
  split
  · rfl
  · split
    · rfl
    · split
      · rw [lEq, l_e, s32 _ _ (by omega) (by omega), s64 _ _ (by omega) (by omega)]
      · split
        · rfl
        · rw [lEq, l_e, s32 _ _ (by omega) (by omega), s64 _ _ (by omega) (by omega)]
end GAUGE
