/-! paths: one round of both -/
theorem dT_upd {N : Nat} {far : Nat → Int32} {i j a b : Nat} {v : Int32} (hN : N ≤ 6) (hij : i < j) (hj : j < N) (hab : a < b) (hb : b < N) : dT N (upd far (pI N i j) v) a b = if a = i ∧ b = j then v else dT N far a b := by
  rw [dT_lt (by omega) hb (by omega), dT_lt (by omega) hb (by omega)]
  by_cases e : a = i ∧ b = j
  · rw [if_pos e, e.1, e.2, upd_s]
  · rw [if_neg e, upd_n]
    intro e2
    exact e (pI_inj N (by omega) a (by omega) b hb hab i (by omega) j hj hij e2)
/-- the shorter way by s -/
def mn (D : Nat → Nat → Int32) (s a b : Nat) : Int32 := if D a s + D s b < D a b then D a s + D s b else D a b
section PATHS
variable {N : Nat} {far f : Nat → Int32}
theorem mn_comm {s a b : Nat} : mn (dT N far) s a b = mn (dT N far) s b a := by
  unfold mn
  rw [dT_comm (i := a) (j := s), dT_comm (i := s) (j := b), dT_comm (i := a) (j := b), Int32.add_comm]
theorem mn_s {s a : Nat} : mn (dT N far) s a s = dT N far a s := by
  unfold mn
  rw [dT_self, Int32.add_zero]
  split <;> rfl
theorem mn_self {s a : Nat} (h : ¬ dT N far a s + dT N far s a < 0) : mn (dT N far) s a a = 0 := by
  unfold mn
  rw [dT_self, if_neg h]
/-- the class's round -/
def cI (N s : Nat) (far : Nat → Int32) (i j : Nat) (g : Nat → Int32) : Prop := ∀ a b, a < b → b < N → dT N g a b = if a < i ∨ (a = i ∧ b < j) then mn (dT N far) s a b else dT N far a b
theorem cI_s {s i j : Nat} {g : Nat → Int32} (h : cI N s far i j g) {x : Nat} (hx : x < N) (hs : s < N) : dT N g x s = dT N far x s := by
  by_cases e : x = s
  · rw [e, dT_self, dT_self]
  · by_cases e2 : x < s
    · rw [h x s e2 hs, mn_s]
      split <;> rfl
    · rw [dT_comm, h s x (by omega) hx, mn_comm, mn_s, dT_comm (i := s)]
      split <;> rfl
theorem c_round (h6 : N ≤ 6) {s : Nat} (hs : s < N) {a b : Nat} (hab : a < b) (hb : b < N) : dT N (sho3 N s far) a b = mn (dT N far) s a b := by
  have key : cI N s far N 0 (sho3 N s far) := by
    have := upn_inv (f := sho2 N s) (fun i g => cI N s far i 0 g) N 0 far ?_ ?_
    · rw [Nat.zero_add] at this
      exact this
    · intro i g _ hi hg
      rw [Nat.zero_add] at hi
      have h2 := upn_inv (f := sho1 N s i) (fun j g => cI N s far i j g) (N - (i + 1)) (i + 1) g ?_ ?_
      · intro a b hab hb
        refine (h2 a b hab hb).trans ?_
        by_cases e : a < i + 1
        · rw [if_pos (by omega), if_pos (by omega)]
        · rw [if_neg (by omega), if_neg (by omega)]
      · intro j g h1 h3 hg a b hab hb
        have hj : j < N := by omega
        unfold sho1
        rw [dT_upd h6 (by omega) hj hab hb, cI_s hg (by omega) hs, dT_comm (i := s) (j := j), cI_s hg hj hs]
        have hij : dT N g i j = dT N far i j := by rw [hg i j (by omega) hj, if_neg (by omega)]
        rw [hij]
        by_cases e : a = i ∧ b = j
        · rw [if_pos e, if_pos (c := a < i ∨ a = i ∧ b < j + 1) (by omega), e.1, e.2]
          unfold mn
          rw [dT_comm (i := s) (j := j)]
        · rw [if_neg e, hg a b hab hb]
          by_cases e2 : a < i ∨ (a = i ∧ b < j)
          · rw [if_pos e2, if_pos (by omega)]
          · rw [if_neg e2, if_neg (by omega)]
      · intro a b hab hb
        rw [hg a b hab hb]
        by_cases e : a < i
        · rw [if_pos (by omega), if_pos (by omega)]
        · rw [if_neg (by omega), if_neg (by omega)]
    · intro a b hab hb
      rw [if_neg (by omega)]
  rw [key a b hab hb, if_pos (by omega)]
/-- the model's round -/
def mI (N s : Nat) (far : Nat → Int32) (i j : Nat) (g : Nat → Int32) : Prop := ∀ a, a < N → ∀ b, b < N → g (6 * a + b) = if a ≠ b ∧ (a < i ∨ b < i ∨ (a = i ∧ b < j) ∨ (b = i ∧ a < j)) then mn (dT N far) s a b else dT N far a b
theorem mI_s {s i j : Nat} {g : Nat → Int32} (h : mI N s far i j g) {x : Nat} (hx : x < N) (hs : s < N) : g (6 * x + s) = dT N far x s := by
  rw [h x hx s hs, mn_s]
  split <;> rfl
theorem mI_s2 {s i j : Nat} {g : Nat → Int32} (h : mI N s far i j g) {x : Nat} (hx : x < N) (hs : s < N) : g (6 * s + x) = dT N far s x := by
  rw [h s hs x hx, mn_comm, mn_s, dT_comm]
  split <;> rfl
theorem m_round (h6 : N ≤ 6) {s : Nat} (hs : s < N) (h : FR N far f) : mI N s far N 0 (mPa3 N s f) := by
  have := upn_inv (f := mPa2 N s) (fun i g => mI N s far i 0 g) N 0 f ?_ ?_
  · rw [Nat.zero_add] at this
    exact this
  · intro i g _ hi hg
    rw [Nat.zero_add] at hi
    have h2 := upn_inv (f := mPa1 s i) (fun j g => mI N s far i j g) N 0 g ?_ hg
    · rw [Nat.zero_add] at h2
      intro a ha b hb
      refine (h2 a ha b hb).trans ?_
      by_cases e : a ≠ b ∧ (a < i ∨ b < i ∨ (a = i ∧ b < N) ∨ (b = i ∧ a < N))
      · rw [if_pos e, if_pos (by omega)]
      · rw [if_neg e, if_neg (by omega)]
    · intro j g _ h3 hg
      have hj : j < N := by omega
      have ei := mI_s hg hi hs
      have ej := mI_s2 hg hj hs
      unfold mPa1
      rw [ei, ej]
      intro a ha b hb
      by_cases hij : i = j
      · rw [if_neg (fun q => q.1 hij), hg a ha b hb]
        by_cases e : a ≠ b ∧ (a < i ∨ b < i ∨ (a = i ∧ b < j) ∨ (b = i ∧ a < j))
        · rw [if_pos e, if_pos (by omega)]
        · rw [if_neg e, if_neg (by omega)]
      -- what stands at i, j now
      have eij := hg i hi j hj
      by_cases hc : dT N far i s + dT N far s j < g (6 * i + j)
      · rw [if_pos ⟨hij, hc⟩]
        have hm : dT N far i s + dT N far s j = mn (dT N far) s i j := by
          unfold mn
          by_cases e : dT N far i s + dT N far s j < dT N far i j
          · rw [if_pos e]
          · exfalso
            rw [eij] at hc
            unfold mn at hc
            rw [if_neg e] at hc
            split at hc <;> exact e hc
        rw [hm]
        unfold mIs
        by_cases e1 : a = j ∧ b = i
        · rw [e1.1, e1.2, upd_s, if_pos (by omega), mn_comm]
        · by_cases e2 : a = i ∧ b = j
          · rw [e2.1, e2.2, upd_n (by omega), upd_s, if_pos (by omega)]
          · rw [upd_n (by omega), upd_n (by omega), hg a ha b hb]
            by_cases e : a ≠ b ∧ (a < i ∨ b < i ∨ (a = i ∧ b < j) ∨ (b = i ∧ a < j))
            · rw [if_pos e, if_pos (by omega)]
            · rw [if_neg e, if_neg (by omega)]
      · rw [if_neg (fun q => hc q.2)]
        have hm : g (6 * i + j) = mn (dT N far) s i j := by
          rw [eij] at hc ⊢
          split
          · rfl
          · rename_i q
            rw [if_neg q] at hc
            unfold mn
            rw [if_neg hc]
        have hm2 : g (6 * j + i) = mn (dT N far) s j i := by
          rw [hg j hj i hi]
          rw [eij] at hm
          rw [mn_comm (a := j), dT_comm (i := j) (j := i), ← hm]
          by_cases e : i ≠ j ∧ (i < i ∨ j < i ∨ (i = i ∧ j < j) ∨ (j = i ∧ i < j))
          · rw [if_pos e, if_pos (by omega)]
          · rw [if_neg e, if_neg (by omega)]
        by_cases e1 : a = j ∧ b = i
        · rw [e1.1, e1.2, hm2, if_pos (by omega)]
        · by_cases e2 : a = i ∧ b = j
          · rw [e2.1, e2.2, hm, if_pos (by omega)]
          · rw [hg a ha b hb]
            by_cases e : a ≠ b ∧ (a < i ∨ b < i ∨ (a = i ∧ b < j) ∨ (b = i ∧ a < j))
            · rw [if_pos e, if_pos (by omega)]
            · rw [if_neg e, if_neg (by omega)]
  · intro a ha b hb
    rw [if_neg (by omega)]
    exact h a ha b hb
theorem r_paths (h6 : N ≤ 6) (h : FR N far f) : FR N (sho N far) (mPa N f) := by
  refine upn_rel (fun a b => FR N a b) N 0 far f (fun s a b _ hs hr => ?_) h
  have hs' : s < N := by omega
  intro i hi j hj
  rw [m_round h6 hs' hr i hi j hj]
  by_cases e : i = j
  · rw [if_neg (by omega), e, dT_self, dT_self]
  · rw [if_pos (by omega)]
    by_cases e2 : i < j
    · rw [c_round h6 hs' e2 hj]
    · rw [dT_comm (far := sho3 N s a), c_round h6 hs' (by omega) hi, mn_comm]
end PATHS
