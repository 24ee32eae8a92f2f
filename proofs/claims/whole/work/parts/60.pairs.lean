/-! both tables: the class's by pairs, the model's by 6 times 6 -/
def dbl {α : Type} (N : Nat) (g : Nat → Nat → α → α) (a : α) : α := upn N 0 (fun i a => upn (N - (i + 1)) (i + 1) (g i) a) a
theorem upn_pairs {α : Type} {N : Nat} (h2 : 2 ≤ N) (h6 : N ≤ 6) (g : Nat → α → α) (a : α) : upn (pN N) 0 g a = dbl N (fun i j => g (pI N i j)) a := by
  have h : N = 2 ∨ N = 3 ∨ N = 4 ∨ N = 5 ∨ N = 6 := by omega
  rcases h with rfl | rfl | rfl | rfl | rfl <;> rfl
/-- two loops side by side -/
theorem upn_rel {α β : Type} (R : α → β → Prop) {f : Nat → α → α} {g : Nat → β → β} : ∀ n k a b, (∀ j a b, k ≤ j → j < k + n → R a b → R (f j a) (g j b)) → R a b → R (upn n k f a) (upn n k g b) := by
  intro n
  induction n with
  | zero => intro k a b _ h; exact h
  | succ n ih => intro k a b hs h; exact ih (k + 1) _ _ (fun j a b h1 h2 => hs j a b (by omega) (by omega)) (hs k a b (Nat.le_refl _) (by omega) h)
theorem dbl_rel {α β : Type} (R : α → β → Prop) {N : Nat} {f : Nat → Nat → α → α} {g : Nat → Nat → β → β} {a : α} {b : β} (hs : ∀ i j a b, i < j → j < N → R a b → R (f i j a) (g i j b)) (h : R a b) : R (dbl N f a) (dbl N g b) :=
  upn_rel R N 0 a b (fun i a b _ h2 hr => upn_rel R _ _ a b (fun j a b h3 h4 hr => hs i j a b (by omega) (by omega) hr) hr) h
theorem dbl_eq {α : Type} {N : Nat} {f g : Nat → Nat → α → α} {a : α} (hs : ∀ i j a, i < j → j < N → f i j a = g i j a) : dbl N f a = dbl N g a :=
  dbl_rel (fun a b => a = b) (fun i j a b h1 h2 h => by subst h; exact hs i j a h1 h2) rfl
theorem dbl_inv {α : Type} (P : α → Prop) {N : Nat} {f : Nat → Nat → α → α} {a : α} (hs : ∀ i j a, i < j → j < N → P a → P (f i j a)) (h : P a) : P (dbl N f a) :=
  dbl_rel (fun a (_ : α) => P a) (g := f) (b := a) (fun i j a _ h1 h2 h => hs i j a h1 h2 h) h
/-- the same distances -/
def FR (N : Nat) (far f : Nat → Int32) : Prop := ∀ i, i < N → ∀ j, j < N → f (6 * i + j) = dT N far i j
def pI_ij (N i j : Nat) : Bool := (List.range N).all fun k => (List.range N).all fun l => !(decide (i < j) && decide (k < l) && (pI N i j == pI N k l)) || (i == k && j == l)
theorem pI_inj0 : ∀ N, N < 7 → ∀ i, i < N → ∀ j, j < N → pI_ij N i j = true := by decide +kernel
theorem pI_inj (N : Nat) (hN : N < 7) (i : Nat) (hi : i < N) (j : Nat) (hj : j < N) (hij : i < j) (k : Nat) (hk : k < N) (l : Nat) (hl : l < N) (hkl : k < l) (e : pI N i j = pI N k l) : i = k ∧ j = l := by
  have h := pI_inj0 N hN i hi j hj
  unfold pI_ij at h
  rw [List.all_eq_true] at h
  have h2 := h k (List.mem_range.mpr hk)
  rw [List.all_eq_true] at h2
  have h3 := h2 l (List.mem_range.mpr hl)
  simp [hij, hkl, e] at h3
  exact h3
theorem pI_comm {N i j : Nat} (h : i ≠ j) : pI N i j = pI N j i := by
  unfold pI
  by_cases h1 : i < j
  · rw [if_pos h1, if_neg (by omega)]
  · rw [if_neg h1, if_pos (by omega)]
theorem dT_lt {N : Nat} {far : Nat → Int32} {i j : Nat} (hi : i < N) (hj : j < N) (h : i ≠ j) : dT N far i j = far (pI N i j) := if_pos ⟨hi, hj, h⟩
theorem dT_comm {N : Nat} {far : Nat → Int32} {i j : Nat} : dT N far i j = dT N far j i := by
  by_cases h : i = j
  · rw [h]
  · unfold dT
    by_cases h1 : i < N ∧ j < N
    · rw [if_pos ⟨h1.1, h1.2, h⟩, if_pos ⟨h1.2, h1.1, fun e => h e.symm⟩, pI_comm h]
    · rw [if_neg (fun q => h1 ⟨q.1, q.2.1⟩), if_neg (fun q => h1 ⟨q.2.1, q.1⟩)]
theorem dT_self {N : Nat} {far : Nat → Int32} {i : Nat} : dT N far i i = 0 := if_neg (fun q => q.2.2 rfl)
/-- one distance changes in both -/
theorem FR.put {N : Nat} {far f : Nat → Int32} {i j : Nat} {v : Int32} (hN : N ≤ 6) (h : FR N far f) (hi : i < N) (hj : j < N) (hij : i ≠ j) : FR N (upd far (pI N i j) v) (mIs i j v f) := by
  intro k hk l hl
  unfold mIs
  by_cases e1 : k = j ∧ l = i
  · obtain ⟨rfl, rfl⟩ := e1
    rw [upd_s, dT_comm, dT_lt hl hk hij, upd_s]
  · by_cases e2 : k = i ∧ l = j
    · obtain ⟨rfl, rfl⟩ := e2
      rw [upd_n (by omega), upd_s, dT_lt hk hl hij, upd_s]
    · rw [upd_n (by omega), upd_n (by omega), h k hk l hl]
      by_cases e3 : k = l
      · rw [e3, dT_self, dT_self]
      · rw [dT_lt hk hl e3, dT_lt hk hl e3, upd_n]
        intro e4
        have key : ∀ a b c d, a < N → b < N → a < b → c < N → d < N → c < d → pI N a b = pI N c d → a = c ∧ b = d := fun a b c d h1 h2 h3 h4 h5 h6 h7 => pI_inj N (by omega) a h1 b h2 h3 c h4 d h5 h6 h7
        by_cases o1 : k < l
        · by_cases o2 : i < j
          · have := key k l i j hk hl o1 hi hj o2 e4; omega
          · rw [pI_comm hij] at e4
            have := key k l j i hk hl o1 hj hi (by omega) e4; omega
        · rw [pI_comm e3] at e4
          by_cases o2 : i < j
          · have := key l k i j hl hk (by omega) hi hj o2 e4; omega
          · rw [pI_comm hij] at e4
            have := key l k j i hl hk (by omega) hj hi (by omega) e4; omega
/-- what both tables share when only the first 15 matter -/
theorem FR.cpy {N : Nat} {far g f : Nat → Int32} (hN : N ≤ 6) (h : FR N far f) : FR N (va_cpy far g 0 0 15) f := by
  intro i hi j hj
  rw [h i hi j hj]
  by_cases e : i = j
  · rw [e, dT_self, dT_self]
  · have := pI_lt hN hi hj e
    rw [dT_lt hi hj e, dT_lt hi hj e]
    show _ = (if 0 ≤ pI N i j ∧ pI N i j < 0 + 15 then far (0 + (pI N i j - 0)) else g (pI N i j))
    rw [if_pos (by omega)]
    simp
theorem FR.at {N : Nat} {far f : Nat → Int32} (h : FR N far f) {i j : Nat} (hij : i < j) (hj : j < N) : f (6 * i + j) = far (pI N i j) := by
  rw [h i (by omega) j hj, dT_lt (by omega) hj (by omega)]
section PURE1
variable {N : Nat} {far f : Nat → Int32}
theorem r_tot (h2 : 2 ≤ N) (h6 : N ≤ 6) (h : FR N far f) : tot N far = mAll N f := by
  unfold tot
  rw [upn_pairs h2 h6]
  exact dbl_eq (f := fun i j a => a + far (pI N i j)) (g := fun i j s => mAll1 f i j s) (fun i j a h1 h3 => by unfold mAll1; rw [h.at h1 h3])
theorem r_unl {far2 f2 : Nat → Int32} (h2 : 2 ≤ N) (h6 : N ≤ 6) (h : FR N far f) (h' : FR N far2 f2) : unl N far far2 = mCh N f2 f := by
  unfold unl
  rw [upn_pairs h2 h6]
  refine dbl_eq (f := fun i j a => a + (if far (pI N i j) = far2 (pI N i j) then nI 0 else nI 1)) (g := fun i j s => mCh1 f2 f i j s) (fun i j a h1 h3 => ?_)
  unfold mCh1
  rw [h.at h1 h3, h'.at h1 h3]
  by_cases e : far (pI N i j) = far2 (pI N i j)
  · rw [if_pos e, if_pos e.symm]
  · rw [if_neg e, if_neg (fun q => e q.symm)]
theorem r_town {B : XB} {xs ys : Nat → Int32} (h6 : N ≤ 6) (hab : ∀ i j, i < j → j < N → ab (B.1 i - B.1 j) + ab (B.2 i - B.2 j) = mOff (xs i) (xs j) + mOff (ys i) (ys j)) (h : FR N far f) : FR N (xTo N B far) (mTo N xs ys f) := by
  refine dbl_rel (fun a b => FR N a b) (f := fun i j a => xTo1 N B i j a) (g := fun i j a => mTo1 xs ys i j a) (fun i j a b h1 h3 hr => ?_) h
  unfold xTo1 mTo1
  rw [hab i j h1 h3]
  exact hr.put h6 (by omega) h3 (by omega)
theorem r_str {x : Int32} (h2 : 2 ≤ N) (h6 : N ≤ 6) (h : FR N far f) : FR N (xSt N x far) (mSt N x f) := by
  unfold xSt
  rw [upn_pairs h2 h6]
  refine dbl_rel (fun a b => FR N a b) (f := fun i j a => xSt1 x (pI N i j) a) (g := fun i j a => mSt1 x i j a) (fun i j a b h1 h3 hr => ?_) h
  unfold xSt1 mSt1
  rw [hr.at h1 h3, Int32.mul_comm x]
  exact hr.put h6 (by omega) h3 (by omega)
end PURE1
