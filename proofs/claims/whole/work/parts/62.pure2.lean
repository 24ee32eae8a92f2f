/-! cut, stretch, triangles, rounds, value -/
theorem upn_at {g : Nat → Int32 → Int32} : ∀ n k (f : Nat → Int32) q, upn n k (fun p f => upd f p (g p (f p))) f q = if k ≤ q ∧ q < k + n then g q (f q) else f q := by
  intro n
  induction n with
  | zero => intro k f q; rw [if_neg (by omega)]; rfl
  | succ n ih =>
    intro k f q
    show upn n (k + 1) _ (upd f k (g k (f k))) q = _
    rw [ih (k + 1) _ q]
    by_cases h1 : q = k
    · subst h1
      rw [if_neg (by omega), if_pos (by omega), upd_s]
    · rw [upd_n h1]
      by_cases h2 : k ≤ q ∧ q < k + (n + 1)
      · rw [if_pos h2, if_pos (by omega)]
      · rw [if_neg h2, if_neg (by omega)]
theorem upd_self {f : Nat → Int32} {p : Nat} : upd f p (f p) = f := by
  funext q
  by_cases h : q = p
  · subst h; rw [upd_s]
  · rw [upd_n h]
theorem pI_sur : ∀ N, N < 7 → ∀ p, p < pN N → ∃ i, i < N ∧ ∃ j, j < N ∧ i < j ∧ pI N i j = p := by
  intro N hN p hp
  have h : ∀ N, N < 7 → ∀ p, p < pN N → ((List.range N).any fun i => (List.range N).any fun j => decide (i < j) && (pI N i j == p)) = true := by decide +kernel
  have h1 := h N hN p hp
  rw [List.any_eq_true] at h1
  obtain ⟨i, hi, h1⟩ := h1
  rw [List.any_eq_true] at h1
  obtain ⟨j, hj, h1⟩ := h1
  simp at h1
  exact ⟨i, List.mem_range.mp hi, j, List.mem_range.mp hj, h1.1, h1.2⟩
def sepC (N s : Nat) : Bool := (List.range N).all fun i => (List.range N).all fun j => !(decide (i < j)) || decide (sepB (pA N (nI s)) (pI N i j) = if sepP (nI s) i j then nI 1 else nI 0)
theorem sepC_ok : ∀ N, N < 7 → ∀ s, s < 32 → sepC N s = true := by decide +kernel
theorem sep_pA {N s i j : Nat} (hN : N ≤ 6) (hs : s < 32) (hij : i < j) (hj : j < N) : sepB (pA N (nI s)) (pI N i j) = if sepP (nI s) i j then nI 1 else nI 0 := by
  have h := sepC_ok N (by omega) s hs
  unfold sepC at h
  rw [List.all_eq_true] at h
  have h2 := h i (List.mem_range.mpr (by omega))
  rw [List.all_eq_true] at h2
  have h3 := h2 j (List.mem_range.mpr hj)
  simp only [hij, decide_true, Bool.not_true, Bool.false_or, decide_eq_true_eq] at h3
  exact h3
section PURE2
variable {N : Nat} {far f : Nat → Int32}
theorem r_cut {s : Nat} {w : Int32} (h2 : 2 ≤ N) (h6 : N ≤ 6) (hs : s < 32) (h : FR N far f) : FR N (xCut N (pA N (nI s)) w far) (mCut N (nI s) w f) := by
  unfold xCut
  rw [upn_pairs h2 h6]
  refine dbl_rel (fun a b => FR N a b) (f := fun i j a => xCut1 (pA N (nI s)) w (pI N i j) a) (g := fun i j a => mCut1 (nI s) w i j a) (fun i j a b h1 h3 hr => ?_) h
  have e : xCut1 (pA N (nI s)) w (pI N i j) a = upd a (pI N i j) (a (pI N i j) + sepB (pA N (nI s)) (pI N i j) * w) := rfl
  rw [e, sep_pA h6 hs h1 h3]
  unfold mCut1
  by_cases hp : sepP (nI s) i j
  · rw [if_pos hp, if_pos hp, hr.at h1 h3, show nI 1 * w = w from Int32.one_mul w]
    exact hr.put h6 (by omega) h3 (by omega)
  · rw [if_neg hp, if_neg hp, show nI 0 * w = 0 from Int32.zero_mul, Int32.add_zero, upd_self]
    exact hr
theorem r_cutOk {s : Nat} {w : Int32} (h2 : 2 ≤ N) (h6 : N ≤ 6) (hs : s < 32) (hb : inB N far) (h : FR N far f) : inB N (xCut N (pA N (nI s)) w far) ↔ cutOk N (nI s) w f := by
  have at_ : ∀ p, p < pN N → xCut N (pA N (nI s)) w far p = far p + sepB (pA N (nI s)) p * w := by
    intro p hp
    have := upn_at (g := fun p v => v + sepB (pA N (nI s)) p * w) (pN N) 0 far p
    rw [if_pos (by omega)] at this
    exact this
  constructor
  · intro hi i hi' j hj hij hp
    have hp15 := (pI_lt0 N (by omega) i hi' j hj (by omega)).1
    have := hi _ hp15
    rw [at_ _ hp15, sep_pA h6 hs hij hj, if_pos hp, show nI 1 * w = w from Int32.one_mul w] at this
    rw [h.at hij hj]
    exact this
  · intro hc p hp
    obtain ⟨i, hi, j, hj, hij, rfl⟩ := pI_sur N (by omega) p hp
    rw [at_ _ hp, sep_pA h6 hs hij hj]
    by_cases hq : sepP (nI s) i j
    · rw [if_pos hq, show nI 1 * w = w from Int32.one_mul w, ← h.at hij hj]
      exact hc i hi j hj hij hq
    · rw [if_neg hq, show nI 0 * w = 0 from Int32.zero_mul, Int32.add_zero]
      exact hb _ hp
theorem r_strOk {k : Nat} (h2 : 2 ≤ N) (h6 : N ≤ 6) (hk : k ≤ 99) (hb : inB N far) (h : FR N far f) : inB N (xSt N (nI k) far) ↔ strOk N (nI k) f := by
  have at_ : ∀ p, p < pN N → xSt N (nI k) far p = far p * nI k := by
    intro p hp
    have := upn_at (g := fun _ v => v * nI k) (pN N) 0 far p
    rw [if_pos (by omega)] at this
    exact this
  have val : ∀ p, p < pN N → ∃ d, d ≤ 999 ∧ far p = nI d := by
    intro p hp
    have := hb p hp
    obtain ⟨d, hd, e⟩ := nI_in0 (n := 1000) (x := far p) this.1 (by omega) (by decide)
    exact ⟨d, by omega, e⟩
  constructor
  · intro hi i hi' j hj hij
    have hp15 := (pI_lt0 N (by omega) i hi' j hj (by omega)).1
    have := hi _ hp15
    rw [at_ _ hp15, Int32.mul_comm] at this
    rw [h.at hij hj, iLe, nI_e (by decide)]
    exact this.2
  · intro hc p hp
    obtain ⟨i, hi, j, hj, hij, rfl⟩ := pI_sur N (by omega) p hp
    have := hc i hi j hj hij
    rw [h.at hij hj, iLe, nI_e (by decide)] at this
    rw [at_ _ hp, Int32.mul_comm]
    obtain ⟨d, hd, e⟩ := val _ hp
    have hkd : k * d ≤ 99 * 999 := Nat.mul_le_mul hk hd
    rw [e, show nI k * nI d = nI (k * d) from pk_mul _ _, nI_e (by omega)] at this ⊢
    omega
/-- both loops with their first found -/
def RT (n : Nat) (s : IO) (t : I2) : Prop := ∃ c, c ≤ n ∧ s.1 = nI c ∧ t.1 = nI c ∧ ((c = 0 ∧ s.2 = none ∧ t.2 = -2) ∨ (0 < c ∧ ∃ v, s.2 = some v ∧ t.2 = v))
theorem upn_relI {α β : Type} (R : Nat → α → β → Prop) {f : Nat → α → α} {g : Nat → β → β} : ∀ n k a b, (∀ j a b, k ≤ j → j < k + n → R j a b → R (j + 1) (f j a) (g j b)) → R k a b → R (k + n) (upn n k f a) (upn n k g b) := by
  intro n
  induction n with
  | zero => intro k a b _ h; exact h
  | succ n ih =>
    intro k a b hs h
    have := ih (k + 1) (f k a) (g k b) (fun j a b h1 h2 => hs j a b (by omega) (by omega)) (hs k a b (Nat.le_refl _) (by omega) h)
    rw [show k + (n + 1) = k + 1 + n by omega]
    exact this
theorem RT.mono {n m : Nat} {s : IO} {t : I2} (h : RT n s t) (hm : n ≤ m) : RT m s t := by
  obtain ⟨c, hc, h⟩ := h
  exact ⟨c, by omega, h⟩
theorem r_tri {P : Nat → Nat → Nat → Prop} [∀ i j k, Decidable (P i j k)] {b : Nat → Nat} {m1 : Nat → Nat → Nat → I2 → I2} (h6 : N ≤ 6) (hb : ∀ i, i < N → b i ≤ N) (hm : ∀ i j k s, i < N → b i ≤ j → j < k → k < N → m1 i j k s = if P i j k then (s.1 + nI 1, if s.1 = 0 then nI (100 * i + 10 * j + k) else s.2) else s) : RT 216 (xF P b N) (upn N 0 (fun i s => upn (N - b i) (b i) (fun j s => upn (N - (j + 1)) (j + 1) (m1 i j) s) s) (nI 0, -2)) := by
  have key := upn_relI (fun i s t => RT (36 * i) s t) (f := xF3 P b N) (g := fun i s => upn (N - b i) (b i) (fun j s => upn (N - (j + 1)) (j + 1) (m1 i j) s) s) N 0 (nI 0, none) (nI 0, -2) ?_ ⟨0, by omega, rfl, rfl, Or.inl ⟨rfl, rfl, rfl⟩⟩
  · exact key.mono (by omega)
  · intro i s t _ hi hr
    have hi' : i < N := by omega
    have hbi := hb i hi'
    have k2 := upn_relI (fun j s t => RT (36 * i + 6 * j) s t) (f := xF2 P N i) (g := fun j s => upn (N - (j + 1)) (j + 1) (m1 i j) s) (N - b i) (b i) s t ?_ (hr.mono (by omega))
    · exact k2.mono (by omega)
    · intro j s t h1 h2 hr
      have hj : j < N := by omega
      have k3 := upn_relI (fun k s t => RT (36 * i + 6 * j + k) s t) (f := xF1 P i j) (g := m1 i j) (N - (j + 1)) (j + 1) s t ?_ (hr.mono (by omega))
      · exact k3.mono (by omega)
      · intro k s t h3 h4 hr
        rw [hm i j k t hi' h1 (by omega) (by omega)]
        unfold xF1
        obtain ⟨c, hc, e1, e2, hcase⟩ := hr
        by_cases hp : P i j k
        · rw [if_pos hp, if_pos hp]
          refine ⟨c + 1, by omega, ?_, ?_, Or.inr ⟨by omega, ?_⟩⟩
          · show s.1 + nI 1 = _
            rw [e1, nI_add]
          · show t.1 + nI 1 = _
            rw [e2, nI_add]
          · rcases hcase with ⟨rfl, h5, h6⟩ | ⟨h5, v, h6, h7⟩
            · refine ⟨nI (100 * i + 10 * j + k), ?_, ?_⟩
              · show some (s.2.getD _) = _
                rw [h5]
                rfl
              · show (if t.1 = 0 then _ else _) = _
                rw [if_pos (show t.1 = 0 from e2)]
            · refine ⟨v, ?_, ?_⟩
              · show some (s.2.getD _) = _
                rw [h6]
                rfl
              · show (if t.1 = 0 then _ else _) = _
                rw [if_neg (by rw [e2]; exact nI_ne0 (by omega) (by omega))]
                exact h7
        · rw [if_neg hp, if_neg hp]
          exact ⟨c, by omega, e1, e2, hcase⟩
theorem RT.eq {n : Nat} {s : IO} {t : I2} (h : RT n s t) : s.1 = t.1 ∧ s.2.getD (-2) = t.2 := by
  obtain ⟨c, hc, e1, e2, h⟩ := h
  refine ⟨e1.trans e2.symm, ?_⟩
  rcases h with ⟨_, h5, h6⟩ | ⟨_, v, h6, h7⟩
  · rw [h5, h6]; rfl
  · rw [h6, h7]; rfl
theorem r_triangles (h6 : N ≤ 6) (h : FR N far f) : (xF (brk N far) (fun _ => 0) N).1 = (mTr N f).1 ∧ (xF (brk N far) (fun _ => 0) N).2.getD (-2) = (mTr N f).2 := by
  refine (r_tri (P := brk N far) (b := fun _ => 0) (m1 := mTr1 f) h6 (fun i _ => Nat.zero_le _) ?_).eq
  intro i j k s hi _ hjk hk
  unfold mTr1
  rw [h i hi j (by omega), h i hi k hk, h j (by omega) k hk]
  by_cases hp : brk N far i j k
  · rw [if_pos hp, if_neg (fun q => q.elim hp.1 (fun q => q.elim hp.2.1 (fun q => q hp.2.2)))]
  · rw [if_neg hp]
    by_cases e1 : i = j
    · rw [if_pos (Or.inl e1)]
    · by_cases e2 : i = k
      · rw [if_pos (Or.inr (Or.inl e2))]
      · rw [if_pos (Or.inr (Or.inr (fun q => hp ⟨e1, e2, q⟩)))]
theorem od_nI {n : Nat} (hn : n < 2 ^ 31) : od (nI n) = nI (n % 2) := pk_rem (by omega) (by decide) (by decide)
theorem r_rounds (h6 : N ≤ 6) (hb : inB N far) (h : FR N far f) : (xF (odr N far) (fun i => i + 1) N).1 = (mRo N f).1 ∧ (xF (odr N far) (fun i => i + 1) N).2.getD (-2) = (mRo N f).2 := by
  refine (r_tri (P := odr N far) (b := fun i => i + 1) (m1 := mRo1 f) h6 (fun i hi => hi) ?_).eq
  intro i j k s hi hij hjk hk
  have val : ∀ a b, a < b → b < N → ∃ d, d ≤ 999 ∧ dT N far a b = nI d := by
    intro a b hab hb'
    rw [dT_lt (by omega) hb' (by omega)]
    have := hb _ (pI_lt0 N (by omega) a (by omega) b hb' (by omega)).1
    obtain ⟨d, hd, e⟩ := nI_in0 (n := 1000) (x := far (pI N a b)) this.1 (by omega) (by decide)
    exact ⟨d, by omega, e⟩
  have hij' : i < j := hij
  unfold mRo1
  rw [h i hi j (by omega), h i hi k hk, h j (by omega) k hk]
  obtain ⟨d1, h1, e1⟩ := val i j hij' (by omega)
  obtain ⟨d2, h2, e2⟩ := val i k (by omega) hk
  obtain ⟨d3, h3, e3⟩ := val j k hjk hk
  have eo : od (dT N far i j + dT N far i k + dT N far j k) = nI ((d1 + d2 + d3) % 2) := by
    rw [e1, e2, e3, nI_add, nI_add, od_nI (by omega)]
  have hm : (d1 + d2 + d3) % 2 = 0 ∨ (d1 + d2 + d3) % 2 = 1 := by omega
  unfold odr
  rw [eo]
  rcases hm with hm | hm
  · rw [hm, if_pos (show nI 0 = 0 from rfl), if_neg (by decide)]
  · rw [hm, if_neg (by decide), if_pos rfl]
theorem r_value {b b' : Nat → Int32} (hb : ∀ i, i < N → b i = b' i) (h : FR N far f) : xVa N b far = mVa N b' f := by
  refine dbl_eq (f := fun i j a => xVa1 N b far i j a) (g := fun i j a => mVa1 b' f i j a) (fun i j a h1 h3 => ?_)
  unfold xVa1 mVa1
  rw [h i (by omega) j h3, hb i (by omega), hb j h3]
end PURE2
