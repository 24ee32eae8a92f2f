/-! texts: both sides -/
theorem bA_eq {S : Nat} {b1 b2 : Nat → Int32} (h : ∀ k, k < S → b1 k = b2 k) : bA S b1 = bA S b2 := by
  funext i
  unfold bA
  by_cases hi : i < S
  · rw [if_pos hi, if_pos hi, h i hi]
  · rw [if_neg hi, if_neg hi]
/-- a figure -/
theorem fA_dg {S : Nat} {b : Nat → Int32} {i : Nat} (h : dg (bA S b i)) : ∃ c, c ≤ 9 ∧ bA S b i = nI (48 + c) ∧ fA S b i = nI c := by
  obtain ⟨v, hv, e⟩ := nI_in0 (n := 58) (x := bA S b i) (by omega) (by omega) (by decide)
  have h1 : 48 ≤ v := by
    have := h.1
    rw [e, nI_e (by omega)] at this
    omega
  refine ⟨v - 48, by omega, by rw [e]; congr 1; omega, ?_⟩
  unfold fA
  rw [if_pos ⟨by rw [iLe, nI_e (by decide)]; omega, by rw [iLe, nI_e (by decide)]; omega⟩, e]
  exact pk_sub h1
theorem fA_nd {S : Nat} {b : Nat → Int32} {i : Nat} (h : ¬ dg (bA S b i)) : fA S b i = -1 := by
  unfold fA
  rw [if_neg]
  intro q
  have q1 := q.1
  have q2 := q.2
  rw [iLe, nI_e (by decide)] at q1
  rw [iLe, nI_e (by decide)] at q2
  exact h ⟨q1, q2⟩
theorem fA_neg {S : Nat} {b : Nat → Int32} {i : Nat} : fA S b i < 0 ↔ ¬ dg (bA S b i) := by
  constructor
  · intro h q
    obtain ⟨c, hc, -, e⟩ := fA_dg q
    rw [e, iLt, i0, nI_e (by omega)] at h
    omega
  · intro h
    rw [fA_nd h]
    decide
theorem r_tF {S : Nat} {b : Nat → Int32} : ∀ n v sp, tF S b n v sp = tM S b n v sp := by
  intro n
  induction n with
  | zero => intro v sp; rfl
  | succ n ih =>
    intro v sp
    unfold tF tM
    by_cases h : dg (bA S b sp)
    · rw [if_neg (fun q => (fA_neg.mp q) h), if_pos h, ih]
      obtain ⟨c, hc, e1, e2⟩ := fA_dg h
      rw [e1, e2]
      congr 1
      rw [Int32.sub_eq_add_neg, Int32.add_assoc, ← Int32.sub_eq_add_neg, show nI (48 + c) - nI 48 = nI (48 + c - 48) from pk_sub (by omega), show 48 + c - 48 = c by omega]
    · rw [if_pos (fA_neg.mpr h), if_neg h]
theorem tF_b {S : Nat} {b : Nat → Int32} : ∀ n c m sp, c + 1 ≤ m → m * 10 ^ n ≤ 1000 → ∃ c', c' ≤ 999 ∧ (tF S b n (nI c) sp).1 = nI c' := by
  intro n
  induction n with
  | zero => intro c m sp h1 h2; exact ⟨c, by omega, rfl⟩
  | succ n ih =>
    intro c m sp h1 h2
    have hp : 10 ^ 0 ≤ 10 ^ n := Nat.pow_le_pow_right (by decide) (Nat.zero_le _)
    rw [Nat.pow_succ] at h2
    have hm : m * 1 ≤ m * (10 ^ n * 10) := Nat.mul_le_mul_left m (by omega)
    unfold tF
    by_cases h : fA S b sp < 0
    · rw [if_pos h]
      exact ⟨c, by omega, rfl⟩
    · rw [if_neg h]
      obtain ⟨d, hd, -, e⟩ := fA_dg (Classical.not_not.mp (fun q => h (fA_neg.mpr q)))
      rw [e, show nI 10 * nI c = nI (10 * c) from pk_mul _ _, nI_add]
      exact ih (10 * c + d) (m * 10) (sp + 1) (by omega) (by rw [Nat.mul_assoc, Nat.mul_comm 10]; exact h2)
theorem zf_at {n q : Nat} {f : Nat → Int32} (h : q < n) : zf n f q = 0 := by
  have := upn_at (g := fun _ _ => nI 0) n 0 f q
  rw [if_pos (by omega)] at this
  exact this
/-- both readers -/
def RP (N : Nat) (s t : PS) : Prop := s.2 = t.2 ∧ (s.2.2 = false → FR N s.1 t.1 ∧ inB N s.1)
theorem inB_upd {N p : Nat} {far : Nat → Int32} {c : Nat} (h : inB N far) (hc : c ≤ 999) : inB N (upd far p (nI c)) := by
  intro q hq
  by_cases e : q = p
  · rw [e, upd_s, nI_e (by omega)]
    omega
  · rw [upd_n e]
    exact h q hq
theorem mIs_comm {i j : Nat} {v : Int32} {f : Nat → Int32} : mIs i j v f = mIs j i v f := by
  funext q
  unfold mIs
  by_cases e1 : q = 6 * i + j
  · by_cases e2 : q = 6 * j + i
    · rw [e2, upd_s]
      by_cases e3 : 6 * j + i = 6 * i + j
      · rw [e3, upd_s]
      · rw [upd_n e3, upd_s]
    · rw [e1, upd_s]
      by_cases e3 : 6 * i + j = 6 * j + i
      · rw [e3, upd_s]
      · rw [upd_n e3, upd_s]
  · by_cases e2 : q = 6 * j + i
    · rw [e2, upd_s]
      by_cases e3 : 6 * j + i = 6 * i + j
      · rw [e3, upd_s]
      · rw [upd_n e3, upd_s]
    · rw [upd_n e2, upd_n e1, upd_n e1, upd_n e2]
theorem r_read {N S : Nat} {b1 b2 g t : Nat → Int32} (h6 : N ≤ 6) (hb : ∀ k, k < S → b1 k = b2 k) : RP N (prs N S b1 g) (mrA N S b2 t) := by
  have eb := bA_eq hb
  have ef : ∀ i, fA S b1 i = fA S b2 i := fun i => by unfold fA; rw [eb]
  have et : ∀ n v sp, tF S b1 n v sp = tF S b2 n v sp := by
    intro n
    induction n with
    | zero => intro v sp; rfl
    | succ n ih => intro v sp; unfold tF; rw [ef, ih]
  refine upn_rel (RP N) (N - 1) 1 _ _ (fun i s t h1 h2 hr => ?_) ⟨rfl, fun _ => ⟨?_, ?_⟩⟩
  · refine upn_rel (RP N) i 0 _ _ (fun j s t h3 h4 hr => ?_) hr
    obtain ⟨e, hf⟩ := hr
    have hi : i < N := by omega
    have hj : j < i := by omega
    unfold pr1 mr1
    rw [eb, ef, ← e]
    by_cases c1 : s.2.2 = true
    · rw [if_pos c1, if_pos c1]
      exact ⟨e, hf⟩
    rw [if_neg c1, if_neg c1]
    have c1' : s.2.2 = false := by cases h : s.2.2 <;> simp_all
    obtain ⟨hF, hB⟩ := hf c1'
    by_cases c2 : bA S b2 s.2.1 = (if j = 0 then nI 59 else nI 44)
    · rw [if_pos c2, if_pos c2]
      by_cases c3 : dg (bA S b2 (s.2.1 + 1))
      · rw [if_neg (fun q => (fA_neg.mp q) c3), if_pos c3, et, r_tF]
        refine ⟨rfl, fun _ => ⟨?_, ?_⟩⟩
        · dsimp only
          rw [mIs_comm]
          exact hF.put h6 (by omega) hi (by omega)
        · dsimp only
          obtain ⟨c', hc', e'⟩ := tF_b (S := S) (b := b2) 3 0 1 (s.2.1 + 1) (by decide) (by decide)
          rw [← r_tF, e']
          exact inB_upd hB hc'
      · rw [if_pos (fA_neg.mpr c3), if_neg c3]
        exact ⟨rfl, fun q => absurd (show true = false from q) (by decide)⟩
    · rw [if_neg c2, if_neg c2]
      exact ⟨rfl, fun q => absurd (show true = false from q) (by decide)⟩
  · intro i hi j hj
    dsimp only
    rw [zf_at (by omega)]
    by_cases e : i = j
    · rw [e, dT_self]
    · rw [dT_lt hi hj e, zf_at (pI_lt h6 hi hj e)]
  · intro p hp
    dsimp only
    have := pN_le h6
    rw [zf_at (by omega)]
    decide
/-- both spellers -/
def RW (u t : SP) : Prop := t.2 ≤ 61 → u.2 = t.2 ∧ ∀ k, k < t.2 → u.1 k = t.1 k
theorem RW.ap {u t : SP} {b : Int32} (h : RW u t) : RW (apd b u) (apM b t) := by
  intro hl
  have hl2 : t.2 + 1 ≤ 61 := hl
  obtain ⟨e, hk⟩ := h (by omega)
  unfold apd apM
  rw [if_pos (by omega)]
  refine ⟨by dsimp only; rw [e], fun k hk2 => ?_⟩
  dsimp only at hk2 ⊢
  rw [e]
  by_cases q : k = t.2
  · rw [q, upd_s, upd_s]
  · rw [upd_n q, upd_n q]
    exact hk k (by omega)
theorem lt_le {v : Int32} {a : Nat} (ha : a + 1 < 2 ^ 31) : v < nI (a + 1) ↔ v ≤ nI a := by
  rw [iLt, iLe, nI_e ha, nI_e (by omega)]
  omega
theorem RW.fg {u t : SP} {v : Int32} (h : RW u t) : RW (wFg v u) (wFM v t) := by
  unfold wFg wFM
  dsimp only
  have l1 := lt_le (v := v) (a := 99) (by decide)
  have l2 := lt_le (v := v) (a := 9) (by decide)
  refine RW.ap ?_
  by_cases c1 : v ≤ nI 9
  · have c2 : v ≤ nI 99 := by
      rw [iLe, nI_e (by decide)] at c1 ⊢
      omega
    rw [if_pos (l2.mpr c1), if_pos c1, if_pos (l1.mpr c2), if_pos c2]
    exact h
  · rw [if_neg (fun q => c1 (l2.mp q)), if_neg c1]
    refine RW.ap ?_
    by_cases c2 : v ≤ nI 99
    · rw [if_pos (l1.mpr c2), if_pos c2]
      exact h
    · rw [if_neg (fun q => c2 (l1.mp q)), if_neg c2]
      exact h.ap
def sumr : Nat → Nat → Nat
  | 0, _ => 0
  | n + 1, k => k + sumr n (k + 1)
theorem wM2_le {f : Nat → Int32} {i : Nat} : ∀ m j (s : SP), (upn m j (wM1 f i) s).2 ≤ s.2 + 4 * m := by
  intro m
  induction m with
  | zero => intro j s; exact Nat.le_refl _
  | succ m ihm =>
    intro j s
    have h3 : (wM1 f i j s).2 ≤ s.2 + 4 := wFM_le (apM_le (Nat.le_refl _))
    have := ihm (j + 1) (wM1 f i j s)
    show (upn m (j + 1) (wM1 f i) (wM1 f i j s)).2 ≤ _
    omega
theorem wMi_le {N : Nat} {f ln : Nat → Int32} (h6 : N ≤ 6) : (wMi N f ln).2 ≤ 61 := by
  have gen : ∀ n k (s : SP), (upn n k (wM2 f) s).2 ≤ s.2 + 4 * sumr n k := by
    intro n
    induction n with
    | zero => intro k s; exact Nat.le_refl _
    | succ n ih =>
      intro k s
      have h1 : (wM2 f k s).2 ≤ s.2 + 4 * k := wM2_le k 0 s
      have := ih (k + 1) (wM2 f k s)
      show (upn n (k + 1) (wM2 f) (wM2 f k s)).2 ≤ s.2 + 4 * (k + sumr n (k + 1))
      omega
  have h1 := gen (N - 1) 1 (apM (nI (48 + N)) (ln, 0))
  have h2 : ∀ N, N < 7 → sumr (N - 1) 1 ≤ 15 := by decide
  have h3 := h2 N (by omega)
  have h4 : (apM (nI (48 + N)) (ln, 0)).2 = 1 := rfl
  unfold wMi
  omega
theorem r_spell {N : Nat} {far f sb ln : Nat → Int32} (h6 : N ≤ 6) (h : FR N far f) : (wri N far sb).2 = (wMi N f ln).2 ∧ ∀ k, k < (wMi N f ln).2 → (wri N far sb).1 k = (wMi N f ln).1 k := by
  refine (upn_rel RW (N - 1) 1 (apd (nI (48 + N)) (sb, 0)) (apM (nI (48 + N)) (ln, 0)) (fun i s t h1 h2 hr => ?_) (RW.ap (fun _ => ⟨rfl, fun k hk => absurd hk (Nat.not_lt_zero _)⟩))) (wMi_le h6)
  refine upn_rel RW i 0 s t (fun j s t h3 h4 hr => ?_) hr
  unfold wr1 wM1
  rw [h i (by omega) j (by omega), dT_comm]
  exact hr.ap.fg
