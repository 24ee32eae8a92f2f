/-! deeds: the ring against the row that is shifted -/
theorem FR.congr {N : Nat} {far f f2 : Nat → Int32} (h6 : N ≤ 6) (h : FR N far f) (e : ∀ t, t < 36 → f2 t = f t) : FR N far f2 := by
  intro i hi j hj
  rw [e _ (by omega)]
  exact h i hi j hj
def DK (N : Nat) (far : Nat → Int32) (n : Int32) (f : Nat → Int32) : Prop := 2 ≤ N ∧ N ≤ 6 ∧ n = nI N ∧ inB N far ∧ FR N far f
def DR (C : XC) (D : Nat) (n8 f8 : Nat → Int32) : Prop := D = C.2.1 ∧ D ≤ 8 ∧ C.1 < 8 ∧ ∀ k, k < D → DK (C.2.2.1 ((C.1 + 8 - D + k) % 8)) (C.2.2.2 ((C.1 + 8 - D + k) % 8)) (n8 k) (fun t => f8 (36 * k + t))
theorem DK.congr {N : Nat} {far f f2 : Nat → Int32} {n n2 : Int32} (h : DK N far n f) (e1 : n2 = n) (e : ∀ t, t < 36 → f2 t = f t) : DK N far n2 f2 := ⟨h.1, h.2.1, e1.trans h.2.2.1, h.2.2.2.1, h.2.2.2.2.congr h.2.1 e⟩
theorem inB.cpy {N : Nat} {far g : Nat → Int32} (h6 : N ≤ 6) (h : inB N far) : inB N (va_cpy far g 0 0 15) := by
  intro p hp
  have := pN_le h6
  have e : va_cpy far g 0 0 15 p = far p := by
    show (if 0 ≤ p ∧ p < 0 + 15 then far (0 + (p - 0)) else g p) = far p
    rw [if_pos (by omega)]
    simp
  rw [e]
  exact h p hp
theorem upn_sh {c : Nat} {w : Nat → Int32} : ∀ n k (f : Nat → Int32) q, upn n k (fun i f => upd f (c + i) (w i)) f q = if c + k ≤ q ∧ q < c + k + n then w (q - c) else f q := by
  intro n
  induction n with
  | zero => intro k f q; rw [if_neg (by omega)]; rfl
  | succ n ih =>
    intro k f q
    show upn n (k + 1) _ (upd f (c + k) (w k)) q = _
    rw [ih (k + 1) _ q]
    by_cases h1 : q = c + k
    · subst h1
      rw [if_neg (by omega), if_pos (by omega), upd_s, show c + k - c = k by omega]
    · rw [upd_n h1]
      by_cases h2 : c + k ≤ q ∧ q < c + k + (n + 1)
      · rw [if_pos h2, if_pos (by omega)]
      · rw [if_neg h2, if_neg (by omega)]
theorem mKp_1 {d k : Nat} {v : Int32} {w : Nat → Int32} {x : DD} : (mKp d v w x).1 k = if k = d then v else x.1 k := by
  show upd x.1 d v k = _
  by_cases e : k = d
  · rw [if_pos e, e, upd_s]
  · rw [if_neg e, upd_n e]
theorem mKp_2 {d k t : Nat} {v : Int32} {w : Nat → Int32} {x : DD} (ht : t < 36) : (mKp d v w x).2 (36 * k + t) = if k = d then w t else x.2 (36 * k + t) := by
  show upn 36 0 (fun i df => upd df (36 * d + i) (w i)) x.2 (36 * k + t) = _
  rw [upn_sh]
  by_cases e : k = d
  · rw [if_pos e, if_pos (by omega), e, show 36 * d + t - 36 * d = t by omega]
  · rw [if_neg e, if_neg (by omega)]
theorem mSh1_at {k : Nat} (hk : 1 ≤ k) : ∀ n i (f : Nat → Int32) q, i + n ≤ 36 → upn n i (mSh1 k) f q = if 36 * (k - 1) + i ≤ q ∧ q < 36 * (k - 1) + i + n then f (q + 36) else f q := by
  intro n
  induction n with
  | zero => intro i f q _; rw [if_neg (by omega)]; rfl
  | succ n ih =>
    intro i f q h
    show upn n (i + 1) (mSh1 k) (upd f (36 * (k - 1) + i) (f (36 * k + i))) q = _
    rw [ih (i + 1) _ q (by omega)]
    by_cases h1 : q = 36 * (k - 1) + i
    · rw [if_neg (by omega), if_pos (by omega), h1, upd_s]
      congr 1
      omega
    · rw [upd_n h1]
      by_cases h2 : 36 * (k - 1) + (i + 1) ≤ q ∧ q < 36 * (k - 1) + (i + 1) + n
      · rw [if_pos h2, if_pos (by omega), upd_n (by omega)]
      · rw [if_neg h2, if_neg (by omega)]
/-- the row moved one down -/
theorem mSh_all {x : DD} : (∀ j, j < 7 → (upn 7 1 mSh x).1 j = x.1 (j + 1)) ∧ (∀ j t, j < 7 → t < 36 → (upn 7 1 mSh x).2 (36 * j + t) = x.2 (36 * (j + 1) + t)) := by
  have key := upn_inv (f := mSh) (fun k (y : DD) => (∀ j, y.1 j = if j + 1 < k then x.1 (j + 1) else x.1 j) ∧ ∀ j t, t < 36 → y.2 (36 * j + t) = if j + 1 < k then x.2 (36 * (j + 1) + t) else x.2 (36 * j + t)) 7 1 x ?_ ?_
  · refine ⟨fun j hj => ?_, fun j t hj ht => ?_⟩
    · rw [key.1 j, if_pos (by omega)]
    · rw [key.2 j t ht, if_pos (by omega)]
  · intro k y h1 h2 hy
    refine ⟨fun j => ?_, fun j t ht => ?_⟩
    · show upd y.1 (k - 1) (y.1 k) j = _
      by_cases e : j = k - 1
      · rw [e, upd_s, hy.1 k, if_neg (by omega), if_pos (by omega), show k - 1 + 1 = k by omega]
      · rw [upd_n e, hy.1 j]
        by_cases e2 : j + 1 < k
        · rw [if_pos e2, if_pos (by omega)]
        · rw [if_neg e2, if_neg (by omega)]
    · show upn 36 0 (mSh1 k) y.2 (36 * j + t) = _
      rw [mSh1_at h1 36 0 _ _ (by omega)]
      by_cases e : j = k - 1
      · rw [if_pos (by omega), if_pos (by omega), show 36 * j + t + 36 = 36 * (j + 1) + t by omega, hy.2 (j + 1) t ht, if_neg (by omega)]
      · rw [if_neg (by omega), hy.2 j t ht]
        by_cases e2 : j + 1 < k
        · rw [if_pos e2, if_pos (by omega)]
        · rw [if_neg e2, if_neg (by omega)]
  · exact ⟨fun j => by rw [if_neg (by omega)], fun j t _ => by rw [if_neg (by omega)]⟩
theorem DR.keep {C : XC} {D N : Nat} {n8 f8 far w : Nat → Int32} (h : DR C D n8 f8) (hk : DK N far (nI N) w) : DR ((C.1 + 1) % 8, (if C.2.1 < 8 then C.2.1 + 1 else 8), va_up C.2.2.1 C.1 N, va_up C.2.2.2 C.1 (va_cpy far (C.2.2.2 C.1) 0 0 15)) (mDn D (nI N) w (n8, f8)).1 (mDn D (nI N) w (n8, f8)).2.1 (mDn D (nI N) w (n8, f8)).2.2 := by
  obtain ⟨e, h8, hf, hK⟩ := h
  have new : DK N (va_cpy far (C.2.2.2 C.1) 0 0 15) (nI N) w := ⟨hk.1, hk.2.1, rfl, hk.2.2.2.1.cpy hk.2.1, hk.2.2.2.2.cpy hk.2.1⟩
  unfold mDn
  by_cases hd : D = 8
  · rw [if_pos hd]
    refine ⟨?_, Nat.le_refl _, Nat.mod_lt _ (by decide), fun k hk8 => ?_⟩
    · show 8 = if C.2.1 < 8 then C.2.1 + 1 else 8
      rw [if_neg (by omega)]
    · dsimp only at hk8 ⊢
      have hs := mSh_all (x := (n8, f8))
      by_cases e7 : k = 7
      · rw [show ((C.1 + 1) % 8 + 8 - 8 + k) % 8 = C.1 by omega, up_s, up_s]
        refine new.congr ?_ (fun t ht => ?_)
        · rw [mKp_1, if_pos e7]
        · rw [mKp_2 ht, if_pos e7]
      · rw [up_n (by omega), up_n (by omega)]
        have old := hK (k + 1) (by omega)
        rw [show (C.1 + 8 - D + (k + 1)) % 8 = ((C.1 + 1) % 8 + 8 - 8 + k) % 8 by omega] at old
        refine old.congr ?_ (fun t ht => ?_)
        · rw [mKp_1, if_neg e7, hs.1 k (by omega)]
        · rw [mKp_2 ht, if_neg e7, hs.2 k t (by omega) ht]
  · rw [if_neg hd]
    refine ⟨?_, by show D + 1 ≤ 8; omega, Nat.mod_lt _ (by decide), fun k hk8 => ?_⟩
    · show D + 1 = if C.2.1 < 8 then C.2.1 + 1 else 8
      rw [if_pos (by omega)]
      omega
    · dsimp only at hk8 ⊢
      by_cases e7 : k = D
      · rw [show ((C.1 + 1) % 8 + 8 - (D + 1) + k) % 8 = C.1 by omega, up_s, up_s]
        refine new.congr ?_ (fun t ht => ?_)
        · rw [mKp_1, if_pos e7]
        · rw [mKp_2 ht, if_pos e7]
      · rw [up_n (by omega), up_n (by omega)]
        have old := hK k (by omega)
        rw [show (C.1 + 8 - D + k) % 8 = ((C.1 + 1) % 8 + 8 - (D + 1) + k) % 8 by omega] at old
        refine old.congr ?_ (fun t ht => ?_)
        · rw [mKp_1, if_neg e7]
        · rw [mKp_2 ht, if_neg e7]
theorem DR.pop {C : XC} {D : Nat} {n8 f8 : Nat → Int32} (h : DR C D n8 f8) (h0 : 0 < D) : DR ((C.1 + 7) % 8, C.2.1 - 1, C.2.2.1, C.2.2.2) (D - 1) n8 f8 ∧ DK (C.2.2.1 ((C.1 + 7) % 8)) (C.2.2.2 ((C.1 + 7) % 8)) (n8 (D - 1)) (fun t => f8 (36 * (D - 1) + t)) := by
  obtain ⟨e, h8, hf, hK⟩ := h
  refine ⟨⟨by show D - 1 = C.2.1 - 1; omega, by omega, Nat.mod_lt _ (by decide), fun k hk => ?_⟩, ?_⟩
  · dsimp only
    have := hK k (by omega)
    rw [show (C.1 + 8 - D + k) % 8 = ((C.1 + 7) % 8 + 8 - (D - 1) + k) % 8 by omega] at this
    exact this
  · have := hK (D - 1) (by omega)
    rw [show (C.1 + 8 - D + (D - 1)) % 8 = (C.1 + 7) % 8 by omega] at this
    exact this
theorem DR.none {C : XC} {n8 f8 : Nat → Int32} (h : C.1 < 8) : DR (C.1, 0, C.2.2.1, C.2.2.2) 0 n8 f8 := ⟨rfl, by decide, h, fun k hk => by omega⟩
