section SUM3
variable {N mo : Nat}
theorem cpA_at {n q : Nat} {f g : Nat → Int32} (h : q < n) : cpA n f g q = f q := by
  have := upn_at (g := fun k _ => f k) n 0 g q
  rw [if_pos (by omega)] at this
  exact this
theorem sst_ok {far : Nat → Int32} {w : SS} : (∀ j, 1 ≤ j → j ≤ lC N → (sst N far w).1 j = 0 ∧ (sst N far w).2.1 j = pA N (nI j)) ∧ (sst N far w).2.2 = va_cpy far w.2.2 0 0 (pN N) := by
  have key := upn_inv (f := sst1 N) (fun s (u : SS) => (∀ j, 1 ≤ j → j < s → u.1 j = 0 ∧ u.2.1 j = pA N (nI j)) ∧ u.2.2 = va_cpy far w.2.2 0 0 (pN N)) (lC N) 1 (w.1, w.2.1, va_cpy far w.2.2 0 0 (pN N)) ?_ ⟨fun j h1 h2 => by omega, rfl⟩
  · exact ⟨fun j h1 h2 => key.1 j h1 (by omega), key.2⟩
  · intro s u h1 h2 hu
    refine ⟨fun j h3 h4 => ?_, hu.2⟩
    show upd u.1 s (nI 0) j = 0 ∧ upd u.2.1 s (pA N (nI s)) j = pA N (nI j)
    by_cases e : j = s
    · rw [e, upd_s, upd_s]
      exact ⟨rfl, rfl⟩
    · rw [upd_n e, upd_n e]
      exact hu.1 j h3 (by omega)
theorem sTog_eq {n : Nat} {nu nu2 : Nat → Int32} (h : ∀ j, 1 ≤ j → j ≤ n → nu j = nu2 j) : sTog n nu = sTog n nu2 :=
  upn_congr n 1 (nI 0) (fun j b h1 h2 => by rw [h j h1 (by omega)])
theorem r_sum {far f g nu : Nat → Int32} {w : SS} {y : Int32} (h2 : 2 ≤ N) (h6 : N ≤ 6) (hmo : mo < 10000) (hb : inB N far) (h : FR N far f) (hy : -1 ≤ y.toInt) (hy2 : y.toInt ≤ lC N) : (if (skI (pN N) (lC N) mo 1 1 true (sst N far w)).1 < 0 ∨ y = -1 then (skI (pN N) (lC N) mo 1 1 true (sst N far w)).1 else if y = 0 then sTog (lC N) (skI (pN N) (lC N) mo 1 1 true (sst N far w)).2.1 else (skI (pN N) (lC N) mo 1 1 true (sst N far w)).2.1 y.toInt.toNat) = (if (sk N mo (lC N) (cpA 36 f g) nu 0).1 = 2 then -7 else if (sk N mo (lC N) (cpA 36 f g) nu 0).1 = 0 then -2 else if y = 0 then sTog (lC N) (sk N mo (lC N) (cpA 36 f g) nu 0).2.1 else if y < 0 then nI (sk N mo (lC N) (cpA 36 f g) nu 0).2.2 else (sk N mo (lC N) (cpA 36 f g) nu 0).2.1 y.toInt.toNat) := by
  have hl := lC_le h2 h6
  have hpn := pN_le h6
  have so := sst_ok (N := N) (far := far) (w := w)
  have fu : FU N (va_cpy far w.2.2 0 0 (pN N)) (cpA 36 f g) := by
    intro i j hij hj
    have hp := (pI_lt0 N (by omega) i (by omega) j hj (by omega)).1
    rw [cpA_at (by omega), h.at hij hj]
    show _ = (if 0 ≤ pI N i j ∧ pI N i j < 0 + pN N then far (0 + (pI N i j - 0)) else w.2.2 (pI N i j))
    rw [if_pos (by omega)]
    simp
  have lf : lfOk N (cpA 36 f g) := by
    intro i hi j hj hij
    have hp := (pI_lt0 N (by omega) i hi j hj (by omega)).1
    rw [fu i j hij hj]
    show 0 ≤ (if 0 ≤ pI N i j ∧ pI N i j < 0 + pN N then far (0 + (pI N i j - 0)) else w.2.2 (pI N i j)).toInt ∧ _
    have := hb _ hp
    simp [va_cpy, hp]
    exact this
  have key := r_sk (mo := mo) h2 h6 (lC N) (Nat.le_refl _) (cpA 36 f g) nu 0 (sst N far w) (Nat.zero_le _) lf (by
    rw [show lC N + 1 - lC N = 1 by omega]
    exact ⟨fun j h1 h3 => (so.1 j h1 h3).2, fun j h1 h3 => (so.1 j h1 h3).1, fun j h1 h3 => by omega, by rw [so.2]; exact fu⟩)
  rw [show lC N + 1 - lC N = 1 by omega] at key
  unfold skC at key
  rw [if_neg (by omega), Nat.sub_zero] at key
  generalize sk N mo (lC N) (cpA 36 f g) nu 0 = r at *
  generalize skI (pN N) (lC N) mo 1 1 true (sst N far w) = c at *
  rcases key with ⟨k1, k2⟩ | ⟨k1, k2, k3, k4⟩ | ⟨k1, k2, w', k3, k4, -⟩
  · rw [if_pos k1, if_pos (Or.inl (by rw [k2]; decide)), k2]
  · rw [if_neg (c := r.1 = 2) (by omega), if_neg (c := r.1 = 0) (by omega)]
    have hc : ¬ c.1 < 0 := by rw [k3, iLt, i0, nI_e (by omega)]; omega
    by_cases e1 : y = -1
    · rw [if_pos (Or.inr e1), if_neg (by rw [e1]; decide), if_pos (by rw [e1]; decide), k3]
    · have e2 : ¬ y < 0 := by
        rw [iEq, im1] at e1
        rw [iLt, i0]
        omega
      rw [if_neg (fun q => q.elim hc e1)]
      by_cases e3 : y = 0
      · rw [if_pos e3, if_pos e3]
        exact sTog_eq k4
      · rw [if_neg e3, if_neg e3, if_neg e2]
        have : 1 ≤ y.toInt.toNat := by
          rw [iEq, i0] at e3
          rw [iLt, i0] at e2
          omega
        exact k4 _ this (by omega)
  · have hz : lAb w'.1 (lC N) = 0 := lAb_0 _ (fun j h1 h3 => k4.2.1 j h1 h3)
    unfold skF at k3
    rw [if_pos hz] at k3
    rw [if_neg (c := r.1 = 2) (by omega), if_pos k1, k3]
    rfl
end SUM3
