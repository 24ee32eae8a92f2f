/-! triangles, rounds -/
abbrev IO : Type := Int32 × Option Int32
def xF1 (P : Nat → Nat → Nat → Prop) [∀ i j k, Decidable (P i j k)] (i j k : Nat) (s : IO) : IO := if P i j k then (s.1 + nI 1, some (s.2.getD (nI (100 * i + 10 * j + k)))) else s
def xF2 (P : Nat → Nat → Nat → Prop) [∀ i j k, Decidable (P i j k)] (N i j : Nat) (s : IO) : IO := upn (N - (j + 1)) (j + 1) (xF1 P i j) s
def xF3 (P : Nat → Nat → Nat → Prop) [∀ i j k, Decidable (P i j k)] (b : Nat → Nat) (N i : Nat) (s : IO) : IO := upn (N - b i) (b i) (xF2 P N i) s
def xF (P : Nat → Nat → Nat → Prop) [∀ i j k, Decidable (P i j k)] (b : Nat → Nat) (N : Nat) : IO := upn N 0 (xF3 P b N) (nI 0, none)
abbrev brk (N : Nat) (f : Nat → Int32) (i j k : Nat) : Prop := i ≠ j ∧ i ≠ k ∧ dT N f i j + dT N f i k < dT N f j k
abbrev odr (N : Nat) (f : Nat → Int32) (i j k : Nat) : Prop := od (dT N f i j + dT N f i k + dT N f j k) = nI 1
section X4
variable {G : GT} {σ σ' : Sto} {A : XA} {B : XB} {C : XC} {I : XI} {H : XH} {T : XT}
theorem upn_keep {f : Nat → IO → IO} {t : Int32} (h : ∀ k s, s.2 = some t → (f k s).2 = some t) : ∀ n k s, s.2 = some t → (upn n k f s).2 = some t := by
  intro n
  induction n with
  | zero => intro k s h; exact h
  | succ n ih => intro k s hs; exact ih (k + 1) _ (h k s hs)
theorem xF1_keep {P : Nat → Nat → Nat → Prop} [∀ i j k, Decidable (P i j k)] {t : Int32} {i j : Nat} (k : Nat) (s : IO) (h : s.2 = some t) : (xF1 P i j k s).2 = some t := by
  unfold xF1
  split
  · show some (s.2.getD _) = _
    rw [h]
    rfl
  · exact h
theorem xF2_keep {P : Nat → Nat → Nat → Prop} [∀ i j k, Decidable (P i j k)] {t : Int32} {N i : Nat} (j : Nat) (s : IO) (h : s.2 = some t) : (xF2 P N i j s).2 = some t := upn_keep (fun k s => xF1_keep k s) _ _ _ h
theorem xF3_keep {P : Nat → Nat → Nat → Prop} [∀ i j k, Decidable (P i j k)] {b : Nat → Nat} {t : Int32} {N : Nat} (i : Nat) (s : IO) (h : s.2 = some t) : (xF3 P b N i s).2 = some t := upn_keep (fun k s => xF2_keep k s) _ _ _ h
theorem upn_step {α : Type} {f : Nat → α → α} {N k : Nat} {a : α} (h : k < N) : upn (N - k) k f a = upn (N - (k + 1)) (k + 1) f (f k a) := by
  rw [show N - k = (N - (k + 1)) + 1 by omega]
  rfl
theorem x_told {i j k : Nat} : ConP G mX9_told 1 [.int (nI i), .int (nI j), .int (nI k)] σ (rI (nI (100 * i + 10 * j + k)) σ) := by
  refine ConP.of rfl (Nat.le_of_ble_eq_true rfl) ?_
  refine k_bipush (pc' := 2) (v := nI 100) dX9_told_0 rfl ?_
  refine k_iload_n (pc' := 3) dX9_told_2 rfl ?_
  refine k_imul (pc' := 4) dX9_told_3 (by first | exact pk_mul _ _ | rfl) ?_
  refine k_bipush (pc' := 6) (v := nI 10) dX9_told_4 rfl ?_
  refine k_iload_n (pc' := 7) dX9_told_6 rfl ?_
  refine k_imul (pc' := 8) dX9_told_7 (by first | exact pk_mul _ _ | rfl) ?_
  refine k_iadd (pc' := 9) dX9_told_8 (by first | exact nI_add _ _ | rfl) ?_
  refine k_iload_n (pc' := 10) dX9_told_9 rfl ?_
  refine k_iadd (pc' := 11) dX9_told_10 (by first | exact nI_add _ _ | rfl) ?_
  refine p_ireturn dX9_told_11 rfl ?_
  exact ⟨rfl, rfl⟩
theorem x_isBrokenTriangle (h : isX G σ A B C I H T) {i j k : Nat} (hi : i < 6) (hj : j < 6) (hk : k < 6) : ConP G mX9_isBrokenTriangle 3 [.ref (adr G 0), .int (nI i), .int (nI j), .int (nI k)] σ (rI (bI (brk A.1 A.2 i j k)) σ) := by
  obtain ⟨x0, x1, -⟩ := h
  have e1 := x1.2.2.1
  refine ConP.of rfl (Nat.le_of_ble_eq_true rfl) ?_
  by_cases h1 : i = j
  · refine k_iload_n (pc' := 1) dX9_isBrokenTriangle_0 rfl ?_
    refine k_iload_n (pc' := 2) dX9_isBrokenTriangle_1 rfl ?_
    refine k_icmp_eq (tgt := 45) (pc' := 5) dX9_isBrokenTriangle_2 rfl (fun _ => ?_) (fun zz_ => absurd (by rw [h1]) zz_)
    refine k_iconst (pc' := 46) (v := nI 0) dX9_isBrokenTriangle_45 rfl ?_
    refine p_zreturn dX9_isBrokenTriangle_46 rfl (by first | exact Or.inl rfl | exact Or.inr rfl) ?_
    exact ⟨by rw [bI_f (fun q => q.1 h1)]; rfl, rfl⟩
  by_cases h2 : i = k
  · refine k_iload_n (pc' := 1) dX9_isBrokenTriangle_0 rfl ?_
    refine k_iload_n (pc' := 2) dX9_isBrokenTriangle_1 rfl ?_
    refine k_icmp_eq (tgt := 45) (pc' := 5) dX9_isBrokenTriangle_2 rfl (fun zz_ => absurd zz_ (by rw [nI_eq (by omega) (by omega)]; exact h1)) (fun _ => ?_)
    refine k_iload_n (pc' := 6) dX9_isBrokenTriangle_5 rfl ?_
    refine k_iload_n (pc' := 7) dX9_isBrokenTriangle_6 rfl ?_
    refine k_icmp_eq (tgt := 45) (pc' := 10) dX9_isBrokenTriangle_7 rfl (fun _ => ?_) (fun zz_ => absurd (by rw [h2]) zz_)
    refine k_iconst (pc' := 46) (v := nI 0) dX9_isBrokenTriangle_45 rfl ?_
    refine p_zreturn dX9_isBrokenTriangle_46 rfl (by first | exact Or.inl rfl | exact Or.inr rfl) ?_
    exact ⟨by rw [bI_f (fun q => q.2.1 h2)]; rfl, rfl⟩
  refine k_iload_n (pc' := 1) dX9_isBrokenTriangle_0 rfl ?_
  refine k_iload_n (pc' := 2) dX9_isBrokenTriangle_1 rfl ?_
  refine k_icmp_eq (tgt := 45) (pc' := 5) dX9_isBrokenTriangle_2 rfl (fun zz_ => absurd zz_ (by rw [nI_eq (by omega) (by omega)]; exact h1)) (fun _ => ?_)
  refine k_iload_n (pc' := 6) dX9_isBrokenTriangle_5 rfl ?_
  refine k_iload_n (pc' := 7) dX9_isBrokenTriangle_6 rfl ?_
  refine k_icmp_eq (tgt := 45) (pc' := 10) dX9_isBrokenTriangle_7 rfl (fun zz_ => absurd zz_ (by rw [nI_eq (by omega) (by omega)]; exact h2)) (fun _ => ?_)
  refine k_aload_n (pc' := 11) dX9_isBrokenTriangle_10 rfl ?_
  refine p_get (pc' := 14) clX9 (Nat.le_of_ble_eq_true rfl) fl_RX9_12 dX9_isBrokenTriangle_11 (by first | assumption | decide | omega) (by assumption) rfl ?_
  refine k_iload_n (pc' := 15) dX9_isBrokenTriangle_14 rfl ?_
  refine k_iload_n (pc' := 16) dX9_isBrokenTriangle_15 rfl ?_
  refine p_vI (ν := mX6_between) (pc' := 19) dX9_isBrokenTriangle_16 ml_RX9_105 mo_X6_between mv_X6_between clX6 (Nat.le_of_ble_eq_true rfl) rfl rfl (Nat.le_of_ble_eq_true rfl) (by first | assumption | decide | omega) (by assumption) (by decide) (c_between x1 (by omega) (by omega)) ?_
  refine k_aload_n (pc' := 20) dX9_isBrokenTriangle_19 rfl ?_
  refine p_get (pc' := 23) clX9 (Nat.le_of_ble_eq_true rfl) fl_RX9_12 dX9_isBrokenTriangle_20 (by first | assumption | decide | omega) (by assumption) rfl ?_
  refine k_iload_n (pc' := 24) dX9_isBrokenTriangle_23 rfl ?_
  refine k_iload_n (pc' := 25) dX9_isBrokenTriangle_24 rfl ?_
  refine p_vI (ν := mX6_between) (pc' := 28) dX9_isBrokenTriangle_25 ml_RX9_105 mo_X6_between mv_X6_between clX6 (Nat.le_of_ble_eq_true rfl) rfl rfl (Nat.le_of_ble_eq_true rfl) (by first | assumption | decide | omega) (by assumption) (by decide) (c_between x1 (by omega) (by omega)) ?_
  refine k_aload_n (pc' := 29) dX9_isBrokenTriangle_28 rfl ?_
  refine p_get (pc' := 32) clX9 (Nat.le_of_ble_eq_true rfl) fl_RX9_12 dX9_isBrokenTriangle_29 (by first | assumption | decide | omega) (by assumption) rfl ?_
  refine k_iload_n (pc' := 33) dX9_isBrokenTriangle_32 rfl ?_
  refine k_iload_n (pc' := 34) dX9_isBrokenTriangle_33 rfl ?_
  refine p_vI (ν := mX6_between) (pc' := 37) dX9_isBrokenTriangle_34 ml_RX9_105 mo_X6_between mv_X6_between clX6 (Nat.le_of_ble_eq_true rfl) rfl rfl (Nat.le_of_ble_eq_true rfl) (by first | assumption | decide | omega) (by assumption) (by decide) (c_between x1 (by omega) (by omega)) ?_
  refine k_iadd (pc' := 38) (v := dT A.1 A.2 i j + dT A.1 A.2 i k) dX9_isBrokenTriangle_37 rfl ?_
  refine k_icmp_le (tgt := 45) (pc' := 41) dX9_isBrokenTriangle_38 rfl (fun c_38 => ?_) (fun c_38 => ?_)
  · refine k_iconst (pc' := 46) (v := nI 0) dX9_isBrokenTriangle_45 rfl ?_
    refine p_zreturn dX9_isBrokenTriangle_46 rfl (by first | exact Or.inl rfl | exact Or.inr rfl) ?_
    refine ⟨?_, rfl⟩
    rw [bI_f (fun q => ?_)]
    · rfl
    · have := q.2.2
      rw [iLt] at this
      rw [iLe] at c_38
      omega
  · refine k_iconst (pc' := 42) (v := nI 1) dX9_isBrokenTriangle_41 rfl ?_
    refine k_goto (tgt := 46) dX9_isBrokenTriangle_42 rfl ?_
    refine p_zreturn dX9_isBrokenTriangle_46 rfl (by first | exact Or.inl rfl | exact Or.inr rfl) ?_
    refine ⟨?_, rfl⟩
    have h3 : dT A.1 A.2 i j + dT A.1 A.2 i k < dT A.1 A.2 j k := by
      rw [iLt]
      rw [iLe] at c_38
      omega
    rw [bI_t ⟨h1, h2, h3⟩]
    rfl
theorem x_isOddRound (h : isX G σ A B C I H T) {i j k : Nat} (hi : i < 6) (hj : j < 6) (hk : k < 6) : ConP G mX9_isOddRound 3 [.ref (adr G 0), .int (nI i), .int (nI j), .int (nI k)] σ (rI (bI (odr A.1 A.2 i j k)) σ) := by
  obtain ⟨x0, x1, -⟩ := h
  have e1 := x1.2.2.1
  refine ConP.of rfl (Nat.le_of_ble_eq_true rfl) ?_
  refine k_aload_n (pc' := 1) dX9_isOddRound_0 rfl ?_
  refine p_get (pc' := 4) clX9 (Nat.le_of_ble_eq_true rfl) fl_RX9_12 dX9_isOddRound_1 (by first | assumption | decide | omega) (by assumption) rfl ?_
  refine k_iload_n (pc' := 5) dX9_isOddRound_4 rfl ?_
  refine k_iload_n (pc' := 6) dX9_isOddRound_5 rfl ?_
  refine p_vI (ν := mX6_between) (pc' := 9) dX9_isOddRound_6 ml_RX9_105 mo_X6_between mv_X6_between clX6 (Nat.le_of_ble_eq_true rfl) rfl rfl (Nat.le_of_ble_eq_true rfl) (by first | assumption | decide | omega) (by assumption) (by decide) (c_between x1 (by omega) (by omega)) ?_
  refine k_aload_n (pc' := 10) dX9_isOddRound_9 rfl ?_
  refine p_get (pc' := 13) clX9 (Nat.le_of_ble_eq_true rfl) fl_RX9_12 dX9_isOddRound_10 (by first | assumption | decide | omega) (by assumption) rfl ?_
  refine k_iload_n (pc' := 14) dX9_isOddRound_13 rfl ?_
  refine k_iload_n (pc' := 15) dX9_isOddRound_14 rfl ?_
  refine p_vI (ν := mX6_between) (pc' := 18) dX9_isOddRound_15 ml_RX9_105 mo_X6_between mv_X6_between clX6 (Nat.le_of_ble_eq_true rfl) rfl rfl (Nat.le_of_ble_eq_true rfl) (by first | assumption | decide | omega) (by assumption) (by decide) (c_between x1 (by omega) (by omega)) ?_
  refine k_iadd (pc' := 19) (v := dT A.1 A.2 i j + dT A.1 A.2 i k) dX9_isOddRound_18 rfl ?_
  refine k_aload_n (pc' := 20) dX9_isOddRound_19 rfl ?_
  refine p_get (pc' := 23) clX9 (Nat.le_of_ble_eq_true rfl) fl_RX9_12 dX9_isOddRound_20 (by first | assumption | decide | omega) (by assumption) rfl ?_
  refine k_iload_n (pc' := 24) dX9_isOddRound_23 rfl ?_
  refine k_iload_n (pc' := 25) dX9_isOddRound_24 rfl ?_
  refine p_vI (ν := mX6_between) (pc' := 28) dX9_isOddRound_25 ml_RX9_105 mo_X6_between mv_X6_between clX6 (Nat.le_of_ble_eq_true rfl) rfl rfl (Nat.le_of_ble_eq_true rfl) (by first | assumption | decide | omega) (by assumption) (by decide) (c_between x1 (by omega) (by omega)) ?_
  refine k_iadd (pc' := 29) (v := dT A.1 A.2 i j + dT A.1 A.2 i k + dT A.1 A.2 j k) dX9_isOddRound_28 rfl ?_
  refine k_iconst (pc' := 30) (v := nI 2) dX9_isOddRound_29 rfl ?_
  refine k_irem (pc' := 31) (v := od (dT A.1 A.2 i j + dT A.1 A.2 i k + dT A.1 A.2 j k)) dX9_isOddRound_30 (by decide) rfl ?_
  refine k_iconst (pc' := 32) (v := nI 1) dX9_isOddRound_31 rfl ?_
  refine k_icmp_ne (tgt := 39) (pc' := 35) dX9_isOddRound_32 rfl (fun c_32 => ?_) (fun c_32 => ?_)
  · refine k_iconst (pc' := 40) (v := nI 0) dX9_isOddRound_39 rfl ?_
    refine p_zreturn dX9_isOddRound_40 rfl (by first | exact Or.inl rfl | exact Or.inr rfl) ?_
    exact ⟨by rw [bI_f c_32]; rfl, rfl⟩
  · refine k_iconst (pc' := 36) (v := nI 1) dX9_isOddRound_35 rfl ?_
    refine k_goto (tgt := 40) dX9_isOddRound_36 rfl ?_
    refine p_zreturn dX9_isOddRound_40 rfl (by first | exact Or.inl rfl | exact Or.inr rfl) ?_
    exact ⟨by rw [bI_t (by assumption)]; rfl, rfl⟩
theorem x_triangles (h : isX G σ A B C I H T) {x : Int32} : ConP G mX9_triangles 4 [.ref (adr G 0), .int x] σ (fun v σ' => xI G σ (if x = 0 then (xF (brk A.1 A.2) (fun _ => 0) A.1).1 else if x = 1 then (xF (brk A.1 A.2) (fun _ => 0) A.1).2.getD (-2) else -1) A B C I H T v σ') := by
  have hX := h
  obtain ⟨x0, x1, -⟩ := h
  have e1 := x1.2.2.1
  have hN6 := x1.2.2.2.2.2
  generalize hR : xF (brk A.1 A.2) (fun _ => 0) A.1 = R
  refine ConP.of rfl (Nat.le_of_ble_eq_true rfl) ?_
  have main : (x = 0 ∨ x = 1) → OkP G mX9_triangles 4 (fun v σ' => xI G σ (if x = 0 then R.1 else if x = 1 then R.2.getD (-2) else -1) A B C I H T v σ') 11 [some (.ref (adr G 0)), some (.int x), none, none, none, none] [] σ := by
    intro hx
    refine k_iconst (pc' := 12) (v := nI 0) dX9_triangles_11 rfl ?_
    refine k_istore_n (pc' := 13) dX9_triangles_12 (Nat.le_of_ble_eq_true rfl) rfl ?_
    refine k_iconst (pc' := 14) (v := nI 0) dX9_triangles_13 rfl ?_
    refine k_istore_n (pc' := 15) dX9_triangles_14 (Nat.le_of_ble_eq_true rfl) rfl ?_
    refine loopU (fun i (s : IO) => (x = 1 → s.2 = none) → upn (A.1 - i) i (xF3 (brk A.1 A.2) (fun _ => 0) A.1) s = R → ∀ y1 y2, OkP G mX9_triangles 4 (fun v σ' => xI G σ (if x = 0 then R.1 else if x = 1 then R.2.getD (-2) else -1) A B C I H T v σ') 15 [some (.ref (adr G 0)), some (.int x), some (.int s.1), some (.int (nI i)), y1, y2] [] σ) (xF3 (brk A.1 A.2) (fun _ => 0) A.1) A.1 0 A.1 (nI 0, none) (by omega) ?_ ?_ (fun _ => rfl) hR none none
    · intro i s _ hi' ih hs hr y1 y2
      rw [upn_step hi'] at hr
      refine k_iload_n (pc' := 16) dX9_triangles_15 rfl ?_
      refine k_aload_n (pc' := 17) dX9_triangles_16 rfl ?_
      refine p_get (pc' := 20) clX9 (Nat.le_of_ble_eq_true rfl) fl_RX9_12 dX9_triangles_17 (by first | assumption | decide | omega) (by assumption) rfl ?_
      refine p_get (pc' := 23) clX6 (Nat.le_of_ble_eq_true rfl) fl_RX9_87 dX9_triangles_20 (by first | assumption | decide | omega) (by assumption) rfl ?_
      refine k_icmp_ge (tgt := 106) (pc' := 26) dX9_triangles_23 rfl (fun zz_ => absurd zz_ (nI_ge (by omega) (by omega))) (fun _ => ?_)
      refine k_iconst (pc' := 27) (v := nI 0) dX9_triangles_26 rfl ?_
      refine k_istore (pc' := 29) dX9_triangles_27 (Nat.le_of_ble_eq_true rfl) rfl ?_
      refine loopU (fun j (s : IO) => (x = 1 → s.2 = none) → upn (A.1 - (i + 1)) (i + 1) (xF3 (brk A.1 A.2) (fun _ => 0) A.1) (upn (A.1 - j) j (xF2 (brk A.1 A.2) A.1 i) s) = R → ∀ y2, OkP G mX9_triangles 4 (fun v σ' => xI G σ (if x = 0 then R.1 else if x = 1 then R.2.getD (-2) else -1) A B C I H T v σ') 29 [some (.ref (adr G 0)), some (.int x), some (.int s.1), some (.int (nI i)), some (.int (nI j)), y2] [] σ) (xF2 (brk A.1 A.2) A.1 i) A.1 0 (A.1 - 0) s (by omega) ?_ ?_ hs hr y2
      · intro j s _ hj ih2 hs hr y2
        rw [upn_step hj] at hr
        refine k_iload (pc' := 31) dX9_triangles_29 rfl ?_
        refine k_aload_n (pc' := 32) dX9_triangles_31 rfl ?_
        refine p_get (pc' := 35) clX9 (Nat.le_of_ble_eq_true rfl) fl_RX9_12 dX9_triangles_32 (by first | assumption | decide | omega) (by assumption) rfl ?_
        refine p_get (pc' := 38) clX6 (Nat.le_of_ble_eq_true rfl) fl_RX9_87 dX9_triangles_35 (by first | assumption | decide | omega) (by assumption) rfl ?_
        refine k_icmp_ge (tgt := 100) (pc' := 41) dX9_triangles_38 rfl (fun zz_ => absurd zz_ (nI_ge (by omega) (by omega))) (fun _ => ?_)
        refine k_iload (pc' := 43) dX9_triangles_41 rfl ?_
        refine k_iconst (pc' := 44) (v := nI 1) dX9_triangles_43 rfl ?_
        refine k_iadd (pc' := 45) dX9_triangles_44 (by first | exact nI_add _ _ | rfl) ?_
        refine k_istore (pc' := 47) dX9_triangles_45 (Nat.le_of_ble_eq_true rfl) rfl ?_
        refine loopU (fun k (s : IO) => (x = 1 → s.2 = none) → upn (A.1 - (i + 1)) (i + 1) (xF3 (brk A.1 A.2) (fun _ => 0) A.1) (upn (A.1 - (j + 1)) (j + 1) (xF2 (brk A.1 A.2) A.1 i) (upn (A.1 - k) k (xF1 (brk A.1 A.2) i j) s)) = R → OkP G mX9_triangles 4 (fun v σ' => xI G σ (if x = 0 then R.1 else if x = 1 then R.2.getD (-2) else -1) A B C I H T v σ') 47 [some (.ref (adr G 0)), some (.int x), some (.int s.1), some (.int (nI i)), some (.int (nI j)), some (.int (nI k))] [] σ) (xF1 (brk A.1 A.2) i j) A.1 (j + 1) (A.1 - (j + 1)) s (by omega) ?_ ?_ hs hr
        · intro k s hjk hk ih3 hs hr
          rw [upn_step hk] at hr
          by_cases hb : brk A.1 A.2 i j k
          · have e : xF1 (brk A.1 A.2) i j k s = (s.1 + nI 1, some (s.2.getD (nI (100 * i + 10 * j + k)))) := if_pos hb
            rw [e] at hr ih3
            by_cases h1 : x = 1
            · have hrr : R.2 = some (nI (100 * i + 10 * j + k)) := by
                rw [← hr]
                refine upn_keep (fun k s => xF3_keep k s) _ _ _ (upn_keep (fun k s => xF2_keep k s) _ _ _ (upn_keep (fun k s => xF1_keep k s) _ _ _ ?_))
                show some (s.2.getD _) = _
                rw [hs h1]
                rfl
              refine k_iload (pc' := 49) dX9_triangles_47 rfl ?_
              refine k_aload_n (pc' := 50) dX9_triangles_49 rfl ?_
              refine p_get (pc' := 53) clX9 (Nat.le_of_ble_eq_true rfl) fl_RX9_12 dX9_triangles_50 (by first | assumption | decide | omega) (by assumption) rfl ?_
              refine p_get (pc' := 56) clX6 (Nat.le_of_ble_eq_true rfl) fl_RX9_87 dX9_triangles_53 (by first | assumption | decide | omega) (by assumption) rfl ?_
              refine k_icmp_ge (tgt := 94) (pc' := 59) dX9_triangles_56 rfl (fun zz_ => absurd zz_ (nI_ge (by omega) (by omega))) (fun _ => ?_)
              refine k_aload_n (pc' := 60) dX9_triangles_59 rfl ?_
              refine k_iload_n (pc' := 61) dX9_triangles_60 rfl ?_
              refine k_iload (pc' := 63) dX9_triangles_61 rfl ?_
              refine k_iload (pc' := 65) dX9_triangles_63 rfl ?_
              refine p_vI (ν := mX9_isBrokenTriangle) (pc' := 68) dX9_triangles_65 ml_RX9_173 mo_X9_isBrokenTriangle mv_X9_isBrokenTriangle clX9 (Nat.le_of_ble_eq_true rfl) rfl rfl (Nat.le_of_ble_eq_true rfl) (by first | assumption | decide | omega) (by assumption) (by decide) (x_isBrokenTriangle hX (by omega) (by omega) (by omega)) ?_
              refine k_if_eq (tgt := 88) (pc' := 71) dX9_triangles_68 rfl (fun zz_ => absurd zz_ (by rw [bI_eq]; exact fun q => q hb)) (fun _ => ?_)
              refine k_iload_n (pc' := 72) dX9_triangles_71 rfl ?_
              refine k_iconst (pc' := 73) (v := nI 1) dX9_triangles_72 rfl ?_
              refine k_icmp_ne (tgt := 85) (pc' := 76) dX9_triangles_73 rfl (fun zz_ => absurd (h1) zz_) (fun _ => ?_)
              refine k_iload_n (pc' := 77) dX9_triangles_76 rfl ?_
              refine k_iload (pc' := 79) dX9_triangles_77 rfl ?_
              refine k_iload (pc' := 81) dX9_triangles_79 rfl ?_
              refine p_sI (ν := mX9_told) (pc' := 84) dX9_triangles_81 ml_RX9_177 mo_X9_told ms_X9_told (Nat.le_of_ble_eq_true rfl) rfl rfl (Nat.le_of_ble_eq_true rfl) (by decide) (x_told) ?_
              refine p_ireturn dX9_triangles_84 rfl ?_
              refine ⟨?_, hX, hi.rfl'⟩
              rw [if_neg (by rw [h1]; decide), if_pos h1, hrr]
              rfl
            · refine k_iload (pc' := 49) dX9_triangles_47 rfl ?_
              refine k_aload_n (pc' := 50) dX9_triangles_49 rfl ?_
              refine p_get (pc' := 53) clX9 (Nat.le_of_ble_eq_true rfl) fl_RX9_12 dX9_triangles_50 (by first | assumption | decide | omega) (by assumption) rfl ?_
              refine p_get (pc' := 56) clX6 (Nat.le_of_ble_eq_true rfl) fl_RX9_87 dX9_triangles_53 (by first | assumption | decide | omega) (by assumption) rfl ?_
              refine k_icmp_ge (tgt := 94) (pc' := 59) dX9_triangles_56 rfl (fun zz_ => absurd zz_ (nI_ge (by omega) (by omega))) (fun _ => ?_)
              refine k_aload_n (pc' := 60) dX9_triangles_59 rfl ?_
              refine k_iload_n (pc' := 61) dX9_triangles_60 rfl ?_
              refine k_iload (pc' := 63) dX9_triangles_61 rfl ?_
              refine k_iload (pc' := 65) dX9_triangles_63 rfl ?_
              refine p_vI (ν := mX9_isBrokenTriangle) (pc' := 68) dX9_triangles_65 ml_RX9_173 mo_X9_isBrokenTriangle mv_X9_isBrokenTriangle clX9 (Nat.le_of_ble_eq_true rfl) rfl rfl (Nat.le_of_ble_eq_true rfl) (by first | assumption | decide | omega) (by assumption) (by decide) (x_isBrokenTriangle hX (by omega) (by omega) (by omega)) ?_
              refine k_if_eq (tgt := 88) (pc' := 71) dX9_triangles_68 rfl (fun zz_ => absurd zz_ (by rw [bI_eq]; exact fun q => q hb)) (fun _ => ?_)
              refine k_iload_n (pc' := 72) dX9_triangles_71 rfl ?_
              refine k_iconst (pc' := 73) (v := nI 1) dX9_triangles_72 rfl ?_
              refine k_icmp_ne (tgt := 85) (pc' := 76) dX9_triangles_73 rfl (fun _ => ?_) (fun zz_ => absurd zz_ h1)
              refine k_iinc (pc' := 88) (v := s.1 + nI 1) dX9_triangles_85 rfl rfl (Nat.le_of_ble_eq_true rfl) rfl ?_
              refine k_iinc (pc' := 91) (v := nI (k + 1)) dX9_triangles_88 rfl (nI_inc _) (Nat.le_of_ble_eq_true rfl) rfl ?_
              refine k_goto (tgt := 47) dX9_triangles_91 rfl ?_
              exact ih3 (fun q => absurd q h1) hr
          · have e : xF1 (brk A.1 A.2) i j k s = s := if_neg hb
            rw [e] at hr ih3
            refine k_iload (pc' := 49) dX9_triangles_47 rfl ?_
            refine k_aload_n (pc' := 50) dX9_triangles_49 rfl ?_
            refine p_get (pc' := 53) clX9 (Nat.le_of_ble_eq_true rfl) fl_RX9_12 dX9_triangles_50 (by first | assumption | decide | omega) (by assumption) rfl ?_
            refine p_get (pc' := 56) clX6 (Nat.le_of_ble_eq_true rfl) fl_RX9_87 dX9_triangles_53 (by first | assumption | decide | omega) (by assumption) rfl ?_
            refine k_icmp_ge (tgt := 94) (pc' := 59) dX9_triangles_56 rfl (fun zz_ => absurd zz_ (nI_ge (by omega) (by omega))) (fun _ => ?_)
            refine k_aload_n (pc' := 60) dX9_triangles_59 rfl ?_
            refine k_iload_n (pc' := 61) dX9_triangles_60 rfl ?_
            refine k_iload (pc' := 63) dX9_triangles_61 rfl ?_
            refine k_iload (pc' := 65) dX9_triangles_63 rfl ?_
            refine p_vI (ν := mX9_isBrokenTriangle) (pc' := 68) dX9_triangles_65 ml_RX9_173 mo_X9_isBrokenTriangle mv_X9_isBrokenTriangle clX9 (Nat.le_of_ble_eq_true rfl) rfl rfl (Nat.le_of_ble_eq_true rfl) (by first | assumption | decide | omega) (by assumption) (by decide) (x_isBrokenTriangle hX (by omega) (by omega) (by omega)) ?_
            refine k_if_eq (tgt := 88) (pc' := 71) dX9_triangles_68 rfl (fun _ => ?_) (fun zz_ => absurd (by rw [bI_eq]; exact hb) zz_)
            refine k_iinc (pc' := 91) (v := nI (k + 1)) dX9_triangles_88 rfl (nI_inc _) (Nat.le_of_ble_eq_true rfl) rfl ?_
            refine k_goto (tgt := 47) dX9_triangles_91 rfl ?_
            exact ih3 hs hr
        · intro hs hr
          rw [Nat.sub_self] at hr
          refine k_iload (pc' := 49) dX9_triangles_47 rfl ?_
          refine k_aload_n (pc' := 50) dX9_triangles_49 rfl ?_
          refine p_get (pc' := 53) clX9 (Nat.le_of_ble_eq_true rfl) fl_RX9_12 dX9_triangles_50 (by first | assumption | decide | omega) (by assumption) rfl ?_
          refine p_get (pc' := 56) clX6 (Nat.le_of_ble_eq_true rfl) fl_RX9_87 dX9_triangles_53 (by first | assumption | decide | omega) (by assumption) rfl ?_
          refine k_icmp_ge (tgt := 94) (pc' := 59) dX9_triangles_56 rfl (fun _ => ?_) (fun zz_ => absurd (nI_le (by omega) (by omega)) zz_)
          refine k_iinc (pc' := 97) (v := nI (j + 1)) dX9_triangles_94 rfl (nI_inc _) (Nat.le_of_ble_eq_true rfl) rfl ?_
          refine k_goto (tgt := 29) dX9_triangles_97 rfl ?_
          exact ih2 hs hr _
      · intro hs hr y2
        rw [Nat.sub_self] at hr
        refine k_iload (pc' := 31) dX9_triangles_29 rfl ?_
        refine k_aload_n (pc' := 32) dX9_triangles_31 rfl ?_
        refine p_get (pc' := 35) clX9 (Nat.le_of_ble_eq_true rfl) fl_RX9_12 dX9_triangles_32 (by first | assumption | decide | omega) (by assumption) rfl ?_
        refine p_get (pc' := 38) clX6 (Nat.le_of_ble_eq_true rfl) fl_RX9_87 dX9_triangles_35 (by first | assumption | decide | omega) (by assumption) rfl ?_
        refine k_icmp_ge (tgt := 100) (pc' := 41) dX9_triangles_38 rfl (fun _ => ?_) (fun zz_ => absurd (nI_le (by omega) (by omega)) zz_)
        refine k_iinc (pc' := 103) (v := nI (i + 1)) dX9_triangles_100 rfl (nI_inc _) (Nat.le_of_ble_eq_true rfl) rfl ?_
        refine k_goto (tgt := 15) dX9_triangles_103 rfl ?_
        exact ih hs hr _ _
    · intro hs hr y1 y2
      rw [Nat.sub_self] at hr
      replace hr : upn A.1 0 (xF3 (brk A.1 A.2) (fun _ => 0) A.1) (nI 0, none) = R := hr
      rw [hr] at hs ⊢
      by_cases h1 : x = 1
      · refine k_iload_n (pc' := 16) dX9_triangles_15 rfl ?_
        refine k_aload_n (pc' := 17) dX9_triangles_16 rfl ?_
        refine p_get (pc' := 20) clX9 (Nat.le_of_ble_eq_true rfl) fl_RX9_12 dX9_triangles_17 (by first | assumption | decide | omega) (by assumption) rfl ?_
        refine p_get (pc' := 23) clX6 (Nat.le_of_ble_eq_true rfl) fl_RX9_87 dX9_triangles_20 (by first | assumption | decide | omega) (by assumption) rfl ?_
        refine k_icmp_ge (tgt := 106) (pc' := 26) dX9_triangles_23 rfl (fun _ => ?_) (fun zz_ => absurd (nI_le (by omega) (by omega)) zz_)
        refine k_iload_n (pc' := 107) dX9_triangles_106 rfl ?_
        refine k_iconst (pc' := 108) (v := nI 1) dX9_triangles_107 rfl ?_
        refine k_icmp_ne (tgt := 116) (pc' := 111) dX9_triangles_108 rfl (fun zz_ => absurd h1 zz_) (fun _ => ?_)
        refine k_bipush (pc' := 113) (v := -2) dX9_triangles_111 rfl ?_
        refine k_goto (tgt := 117) dX9_triangles_113 rfl ?_
        refine p_ireturn dX9_triangles_117 rfl ?_
        refine ⟨?_, hX, hi.rfl'⟩
        rw [if_neg (by rw [h1]; decide), if_pos h1, hs h1]
        rfl
      · refine k_iload_n (pc' := 16) dX9_triangles_15 rfl ?_
        refine k_aload_n (pc' := 17) dX9_triangles_16 rfl ?_
        refine p_get (pc' := 20) clX9 (Nat.le_of_ble_eq_true rfl) fl_RX9_12 dX9_triangles_17 (by first | assumption | decide | omega) (by assumption) rfl ?_
        refine p_get (pc' := 23) clX6 (Nat.le_of_ble_eq_true rfl) fl_RX9_87 dX9_triangles_20 (by first | assumption | decide | omega) (by assumption) rfl ?_
        refine k_icmp_ge (tgt := 106) (pc' := 26) dX9_triangles_23 rfl (fun _ => ?_) (fun zz_ => absurd (nI_le (by omega) (by omega)) zz_)
        refine k_iload_n (pc' := 107) dX9_triangles_106 rfl ?_
        refine k_iconst (pc' := 108) (v := nI 1) dX9_triangles_107 rfl ?_
        refine k_icmp_ne (tgt := 116) (pc' := 111) dX9_triangles_108 rfl (fun _ => ?_) (fun zz_ => absurd zz_ h1)
        refine k_iload_n (pc' := 117) dX9_triangles_116 rfl ?_
        refine p_ireturn dX9_triangles_117 rfl ?_
        refine ⟨?_, hX, hi.rfl'⟩
        rw [if_pos (hx.resolve_right h1)]
  refine k_iload_n (pc' := 1) dX9_triangles_0 rfl ?_
  refine k_if_eq (tgt := 11) (pc' := 4) dX9_triangles_1 rfl (fun c_1 => ?_) (fun c_1 => ?_)
  · exact main (Or.inl c_1)
  refine k_iload_n (pc' := 5) dX9_triangles_4 rfl ?_
  refine k_iconst (pc' := 6) (v := nI 1) dX9_triangles_5 rfl ?_
  refine k_icmp_eq (tgt := 11) (pc' := 9) dX9_triangles_6 rfl (fun c_6 => ?_) (fun c_6 => ?_)
  · exact main (Or.inr c_6)
  refine k_iconst (pc' := 10) (v := -1) dX9_triangles_9 rfl ?_
  refine p_ireturn dX9_triangles_10 rfl ?_
  refine ⟨?_, hX, hi.rfl'⟩
  rw [if_neg c_1, if_neg (show ¬ x = 1 from c_6)]
theorem x_rounds (h : isX G σ A B C I H T) {x : Int32} : ConP G mX9_rounds 4 [.ref (adr G 0), .int x] σ (fun v σ' => xI G σ (if x = 0 then (xF (odr A.1 A.2) (fun i => i + 1) A.1).1 else if x = 1 then (xF (odr A.1 A.2) (fun i => i + 1) A.1).2.getD (-2) else -1) A B C I H T v σ') := by
  have hX := h
  obtain ⟨x0, x1, -⟩ := h
  have e1 := x1.2.2.1
  have hN6 := x1.2.2.2.2.2
  generalize hR : xF (odr A.1 A.2) (fun i => i + 1) A.1 = R
  refine ConP.of rfl (Nat.le_of_ble_eq_true rfl) ?_
  have main : (x = 0 ∨ x = 1) → OkP G mX9_rounds 4 (fun v σ' => xI G σ (if x = 0 then R.1 else if x = 1 then R.2.getD (-2) else -1) A B C I H T v σ') 11 [some (.ref (adr G 0)), some (.int x), none, none, none, none] [] σ := by
    intro hx
    refine k_iconst (pc' := 12) (v := nI 0) dX9_rounds_11 rfl ?_
    refine k_istore_n (pc' := 13) dX9_rounds_12 (Nat.le_of_ble_eq_true rfl) rfl ?_
    refine k_iconst (pc' := 14) (v := nI 0) dX9_rounds_13 rfl ?_
    refine k_istore_n (pc' := 15) dX9_rounds_14 (Nat.le_of_ble_eq_true rfl) rfl ?_
    refine loopU (fun i (s : IO) => (x = 1 → s.2 = none) → upn (A.1 - i) i (xF3 (odr A.1 A.2) (fun i => i + 1) A.1) s = R → ∀ y1 y2, OkP G mX9_rounds 4 (fun v σ' => xI G σ (if x = 0 then R.1 else if x = 1 then R.2.getD (-2) else -1) A B C I H T v σ') 15 [some (.ref (adr G 0)), some (.int x), some (.int s.1), some (.int (nI i)), y1, y2] [] σ) (xF3 (odr A.1 A.2) (fun i => i + 1) A.1) A.1 0 A.1 (nI 0, none) (by omega) ?_ ?_ (fun _ => rfl) hR none none
    · intro i s _ hi' ih hs hr y1 y2
      rw [upn_step hi'] at hr
      refine k_iload_n (pc' := 16) dX9_rounds_15 rfl ?_
      refine k_aload_n (pc' := 17) dX9_rounds_16 rfl ?_
      refine p_get (pc' := 20) clX9 (Nat.le_of_ble_eq_true rfl) fl_RX9_12 dX9_rounds_17 (by first | assumption | decide | omega) (by assumption) rfl ?_
      refine p_get (pc' := 23) clX6 (Nat.le_of_ble_eq_true rfl) fl_RX9_87 dX9_rounds_20 (by first | assumption | decide | omega) (by assumption) rfl ?_
      refine k_icmp_ge (tgt := 108) (pc' := 26) dX9_rounds_23 rfl (fun zz_ => absurd zz_ (nI_ge (by omega) (by omega))) (fun _ => ?_)
      refine k_iload_n (pc' := 27) dX9_rounds_26 rfl ?_
      refine k_iconst (pc' := 28) (v := nI 1) dX9_rounds_27 rfl ?_
      refine k_iadd (pc' := 29) dX9_rounds_28 (by first | exact nI_add _ _ | rfl) ?_
      refine k_istore (pc' := 31) dX9_rounds_29 (Nat.le_of_ble_eq_true rfl) rfl ?_
      refine loopU (fun j (s : IO) => (x = 1 → s.2 = none) → upn (A.1 - (i + 1)) (i + 1) (xF3 (odr A.1 A.2) (fun i => i + 1) A.1) (upn (A.1 - j) j (xF2 (odr A.1 A.2) A.1 i) s) = R → ∀ y2, OkP G mX9_rounds 4 (fun v σ' => xI G σ (if x = 0 then R.1 else if x = 1 then R.2.getD (-2) else -1) A B C I H T v σ') 31 [some (.ref (adr G 0)), some (.int x), some (.int s.1), some (.int (nI i)), some (.int (nI j)), y2] [] σ) (xF2 (odr A.1 A.2) A.1 i) A.1 (i + 1) (A.1 - (i + 1)) s (by omega) ?_ ?_ hs hr y2
      · intro j s hij hj ih2 hs hr y2
        rw [upn_step hj] at hr
        refine k_iload (pc' := 33) dX9_rounds_31 rfl ?_
        refine k_aload_n (pc' := 34) dX9_rounds_33 rfl ?_
        refine p_get (pc' := 37) clX9 (Nat.le_of_ble_eq_true rfl) fl_RX9_12 dX9_rounds_34 (by first | assumption | decide | omega) (by assumption) rfl ?_
        refine p_get (pc' := 40) clX6 (Nat.le_of_ble_eq_true rfl) fl_RX9_87 dX9_rounds_37 (by first | assumption | decide | omega) (by assumption) rfl ?_
        refine k_icmp_ge (tgt := 102) (pc' := 43) dX9_rounds_40 rfl (fun zz_ => absurd zz_ (nI_ge (by omega) (by omega))) (fun _ => ?_)
        refine k_iload (pc' := 45) dX9_rounds_43 rfl ?_
        refine k_iconst (pc' := 46) (v := nI 1) dX9_rounds_45 rfl ?_
        refine k_iadd (pc' := 47) dX9_rounds_46 (by first | exact nI_add _ _ | rfl) ?_
        refine k_istore (pc' := 49) dX9_rounds_47 (Nat.le_of_ble_eq_true rfl) rfl ?_
        refine loopU (fun k (s : IO) => (x = 1 → s.2 = none) → upn (A.1 - (i + 1)) (i + 1) (xF3 (odr A.1 A.2) (fun i => i + 1) A.1) (upn (A.1 - (j + 1)) (j + 1) (xF2 (odr A.1 A.2) A.1 i) (upn (A.1 - k) k (xF1 (odr A.1 A.2) i j) s)) = R → OkP G mX9_rounds 4 (fun v σ' => xI G σ (if x = 0 then R.1 else if x = 1 then R.2.getD (-2) else -1) A B C I H T v σ') 49 [some (.ref (adr G 0)), some (.int x), some (.int s.1), some (.int (nI i)), some (.int (nI j)), some (.int (nI k))] [] σ) (xF1 (odr A.1 A.2) i j) A.1 (j + 1) (A.1 - (j + 1)) s (by omega) ?_ ?_ hs hr
        · intro k s hjk hk ih3 hs hr
          rw [upn_step hk] at hr
          by_cases hb : odr A.1 A.2 i j k
          · have e : xF1 (odr A.1 A.2) i j k s = (s.1 + nI 1, some (s.2.getD (nI (100 * i + 10 * j + k)))) := if_pos hb
            rw [e] at hr ih3
            by_cases h1 : x = 1
            · have hrr : R.2 = some (nI (100 * i + 10 * j + k)) := by
                rw [← hr]
                refine upn_keep (fun k s => xF3_keep k s) _ _ _ (upn_keep (fun k s => xF2_keep k s) _ _ _ (upn_keep (fun k s => xF1_keep k s) _ _ _ ?_))
                show some (s.2.getD _) = _
                rw [hs h1]
                rfl
              refine k_iload (pc' := 51) dX9_rounds_49 rfl ?_
              refine k_aload_n (pc' := 52) dX9_rounds_51 rfl ?_
              refine p_get (pc' := 55) clX9 (Nat.le_of_ble_eq_true rfl) fl_RX9_12 dX9_rounds_52 (by first | assumption | decide | omega) (by assumption) rfl ?_
              refine p_get (pc' := 58) clX6 (Nat.le_of_ble_eq_true rfl) fl_RX9_87 dX9_rounds_55 (by first | assumption | decide | omega) (by assumption) rfl ?_
              refine k_icmp_ge (tgt := 96) (pc' := 61) dX9_rounds_58 rfl (fun zz_ => absurd zz_ (nI_ge (by omega) (by omega))) (fun _ => ?_)
              refine k_aload_n (pc' := 62) dX9_rounds_61 rfl ?_
              refine k_iload_n (pc' := 63) dX9_rounds_62 rfl ?_
              refine k_iload (pc' := 65) dX9_rounds_63 rfl ?_
              refine k_iload (pc' := 67) dX9_rounds_65 rfl ?_
              refine p_vI (ν := mX9_isOddRound) (pc' := 70) dX9_rounds_67 ml_RX9_181 mo_X9_isOddRound mv_X9_isOddRound clX9 (Nat.le_of_ble_eq_true rfl) rfl rfl (Nat.le_of_ble_eq_true rfl) (by first | assumption | decide | omega) (by assumption) (by decide) (x_isOddRound hX (by omega) (by omega) (by omega)) ?_
              refine k_if_eq (tgt := 90) (pc' := 73) dX9_rounds_70 rfl (fun zz_ => absurd zz_ (by rw [bI_eq]; exact fun q => q hb)) (fun _ => ?_)
              refine k_iload_n (pc' := 74) dX9_rounds_73 rfl ?_
              refine k_iconst (pc' := 75) (v := nI 1) dX9_rounds_74 rfl ?_
              refine k_icmp_ne (tgt := 87) (pc' := 78) dX9_rounds_75 rfl (fun zz_ => absurd (h1) zz_) (fun _ => ?_)
              refine k_iload_n (pc' := 79) dX9_rounds_78 rfl ?_
              refine k_iload (pc' := 81) dX9_rounds_79 rfl ?_
              refine k_iload (pc' := 83) dX9_rounds_81 rfl ?_
              refine p_sI (ν := mX9_told) (pc' := 86) dX9_rounds_83 ml_RX9_177 mo_X9_told ms_X9_told (Nat.le_of_ble_eq_true rfl) rfl rfl (Nat.le_of_ble_eq_true rfl) (by decide) (x_told) ?_
              refine p_ireturn dX9_rounds_86 rfl ?_
              refine ⟨?_, hX, hi.rfl'⟩
              rw [if_neg (by rw [h1]; decide), if_pos h1, hrr]
              rfl
            · refine k_iload (pc' := 51) dX9_rounds_49 rfl ?_
              refine k_aload_n (pc' := 52) dX9_rounds_51 rfl ?_
              refine p_get (pc' := 55) clX9 (Nat.le_of_ble_eq_true rfl) fl_RX9_12 dX9_rounds_52 (by first | assumption | decide | omega) (by assumption) rfl ?_
              refine p_get (pc' := 58) clX6 (Nat.le_of_ble_eq_true rfl) fl_RX9_87 dX9_rounds_55 (by first | assumption | decide | omega) (by assumption) rfl ?_
              refine k_icmp_ge (tgt := 96) (pc' := 61) dX9_rounds_58 rfl (fun zz_ => absurd zz_ (nI_ge (by omega) (by omega))) (fun _ => ?_)
              refine k_aload_n (pc' := 62) dX9_rounds_61 rfl ?_
              refine k_iload_n (pc' := 63) dX9_rounds_62 rfl ?_
              refine k_iload (pc' := 65) dX9_rounds_63 rfl ?_
              refine k_iload (pc' := 67) dX9_rounds_65 rfl ?_
              refine p_vI (ν := mX9_isOddRound) (pc' := 70) dX9_rounds_67 ml_RX9_181 mo_X9_isOddRound mv_X9_isOddRound clX9 (Nat.le_of_ble_eq_true rfl) rfl rfl (Nat.le_of_ble_eq_true rfl) (by first | assumption | decide | omega) (by assumption) (by decide) (x_isOddRound hX (by omega) (by omega) (by omega)) ?_
              refine k_if_eq (tgt := 90) (pc' := 73) dX9_rounds_70 rfl (fun zz_ => absurd zz_ (by rw [bI_eq]; exact fun q => q hb)) (fun _ => ?_)
              refine k_iload_n (pc' := 74) dX9_rounds_73 rfl ?_
              refine k_iconst (pc' := 75) (v := nI 1) dX9_rounds_74 rfl ?_
              refine k_icmp_ne (tgt := 87) (pc' := 78) dX9_rounds_75 rfl (fun _ => ?_) (fun zz_ => absurd zz_ h1)
              refine k_iinc (pc' := 90) (v := s.1 + nI 1) dX9_rounds_87 rfl rfl (Nat.le_of_ble_eq_true rfl) rfl ?_
              refine k_iinc (pc' := 93) (v := nI (k + 1)) dX9_rounds_90 rfl (nI_inc _) (Nat.le_of_ble_eq_true rfl) rfl ?_
              refine k_goto (tgt := 49) dX9_rounds_93 rfl ?_
              exact ih3 (fun q => absurd q h1) hr
          · have e : xF1 (odr A.1 A.2) i j k s = s := if_neg hb
            rw [e] at hr ih3
            refine k_iload (pc' := 51) dX9_rounds_49 rfl ?_
            refine k_aload_n (pc' := 52) dX9_rounds_51 rfl ?_
            refine p_get (pc' := 55) clX9 (Nat.le_of_ble_eq_true rfl) fl_RX9_12 dX9_rounds_52 (by first | assumption | decide | omega) (by assumption) rfl ?_
            refine p_get (pc' := 58) clX6 (Nat.le_of_ble_eq_true rfl) fl_RX9_87 dX9_rounds_55 (by first | assumption | decide | omega) (by assumption) rfl ?_
            refine k_icmp_ge (tgt := 96) (pc' := 61) dX9_rounds_58 rfl (fun zz_ => absurd zz_ (nI_ge (by omega) (by omega))) (fun _ => ?_)
            refine k_aload_n (pc' := 62) dX9_rounds_61 rfl ?_
            refine k_iload_n (pc' := 63) dX9_rounds_62 rfl ?_
            refine k_iload (pc' := 65) dX9_rounds_63 rfl ?_
            refine k_iload (pc' := 67) dX9_rounds_65 rfl ?_
            refine p_vI (ν := mX9_isOddRound) (pc' := 70) dX9_rounds_67 ml_RX9_181 mo_X9_isOddRound mv_X9_isOddRound clX9 (Nat.le_of_ble_eq_true rfl) rfl rfl (Nat.le_of_ble_eq_true rfl) (by first | assumption | decide | omega) (by assumption) (by decide) (x_isOddRound hX (by omega) (by omega) (by omega)) ?_
            refine k_if_eq (tgt := 90) (pc' := 73) dX9_rounds_70 rfl (fun _ => ?_) (fun zz_ => absurd (by rw [bI_eq]; exact hb) zz_)
            refine k_iinc (pc' := 93) (v := nI (k + 1)) dX9_rounds_90 rfl (nI_inc _) (Nat.le_of_ble_eq_true rfl) rfl ?_
            refine k_goto (tgt := 49) dX9_rounds_93 rfl ?_
            exact ih3 hs hr
        · intro hs hr
          rw [Nat.sub_self] at hr
          refine k_iload (pc' := 51) dX9_rounds_49 rfl ?_
          refine k_aload_n (pc' := 52) dX9_rounds_51 rfl ?_
          refine p_get (pc' := 55) clX9 (Nat.le_of_ble_eq_true rfl) fl_RX9_12 dX9_rounds_52 (by first | assumption | decide | omega) (by assumption) rfl ?_
          refine p_get (pc' := 58) clX6 (Nat.le_of_ble_eq_true rfl) fl_RX9_87 dX9_rounds_55 (by first | assumption | decide | omega) (by assumption) rfl ?_
          refine k_icmp_ge (tgt := 96) (pc' := 61) dX9_rounds_58 rfl (fun _ => ?_) (fun zz_ => absurd (nI_le (by omega) (by omega)) zz_)
          refine k_iinc (pc' := 99) (v := nI (j + 1)) dX9_rounds_96 rfl (nI_inc _) (Nat.le_of_ble_eq_true rfl) rfl ?_
          refine k_goto (tgt := 31) dX9_rounds_99 rfl ?_
          exact ih2 hs hr _
      · intro hs hr y2
        rw [Nat.sub_self] at hr
        refine k_iload (pc' := 33) dX9_rounds_31 rfl ?_
        refine k_aload_n (pc' := 34) dX9_rounds_33 rfl ?_
        refine p_get (pc' := 37) clX9 (Nat.le_of_ble_eq_true rfl) fl_RX9_12 dX9_rounds_34 (by first | assumption | decide | omega) (by assumption) rfl ?_
        refine p_get (pc' := 40) clX6 (Nat.le_of_ble_eq_true rfl) fl_RX9_87 dX9_rounds_37 (by first | assumption | decide | omega) (by assumption) rfl ?_
        refine k_icmp_ge (tgt := 102) (pc' := 43) dX9_rounds_40 rfl (fun _ => ?_) (fun zz_ => absurd (nI_le (by omega) (by omega)) zz_)
        refine k_iinc (pc' := 105) (v := nI (i + 1)) dX9_rounds_102 rfl (nI_inc _) (Nat.le_of_ble_eq_true rfl) rfl ?_
        refine k_goto (tgt := 15) dX9_rounds_105 rfl ?_
        exact ih hs hr _ _
    · intro hs hr y1 y2
      rw [Nat.sub_self] at hr
      replace hr : upn A.1 0 (xF3 (odr A.1 A.2) (fun i => i + 1) A.1) (nI 0, none) = R := hr
      rw [hr] at hs ⊢
      by_cases h1 : x = 1
      · refine k_iload_n (pc' := 16) dX9_rounds_15 rfl ?_
        refine k_aload_n (pc' := 17) dX9_rounds_16 rfl ?_
        refine p_get (pc' := 20) clX9 (Nat.le_of_ble_eq_true rfl) fl_RX9_12 dX9_rounds_17 (by first | assumption | decide | omega) (by assumption) rfl ?_
        refine p_get (pc' := 23) clX6 (Nat.le_of_ble_eq_true rfl) fl_RX9_87 dX9_rounds_20 (by first | assumption | decide | omega) (by assumption) rfl ?_
        refine k_icmp_ge (tgt := 108) (pc' := 26) dX9_rounds_23 rfl (fun _ => ?_) (fun zz_ => absurd (nI_le (by omega) (by omega)) zz_)
        refine k_iload_n (pc' := 109) dX9_rounds_108 rfl ?_
        refine k_iconst (pc' := 110) (v := nI 1) dX9_rounds_109 rfl ?_
        refine k_icmp_ne (tgt := 118) (pc' := 113) dX9_rounds_110 rfl (fun zz_ => absurd h1 zz_) (fun _ => ?_)
        refine k_bipush (pc' := 115) (v := -2) dX9_rounds_113 rfl ?_
        refine k_goto (tgt := 119) dX9_rounds_115 rfl ?_
        refine p_ireturn dX9_rounds_119 rfl ?_
        refine ⟨?_, hX, hi.rfl'⟩
        rw [if_neg (by rw [h1]; decide), if_pos h1, hs h1]
        rfl
      · refine k_iload_n (pc' := 16) dX9_rounds_15 rfl ?_
        refine k_aload_n (pc' := 17) dX9_rounds_16 rfl ?_
        refine p_get (pc' := 20) clX9 (Nat.le_of_ble_eq_true rfl) fl_RX9_12 dX9_rounds_17 (by first | assumption | decide | omega) (by assumption) rfl ?_
        refine p_get (pc' := 23) clX6 (Nat.le_of_ble_eq_true rfl) fl_RX9_87 dX9_rounds_20 (by first | assumption | decide | omega) (by assumption) rfl ?_
        refine k_icmp_ge (tgt := 108) (pc' := 26) dX9_rounds_23 rfl (fun _ => ?_) (fun zz_ => absurd (nI_le (by omega) (by omega)) zz_)
        refine k_iload_n (pc' := 109) dX9_rounds_108 rfl ?_
        refine k_iconst (pc' := 110) (v := nI 1) dX9_rounds_109 rfl ?_
        refine k_icmp_ne (tgt := 118) (pc' := 113) dX9_rounds_110 rfl (fun _ => ?_) (fun zz_ => absurd zz_ h1)
        refine k_iload_n (pc' := 119) dX9_rounds_118 rfl ?_
        refine p_ireturn dX9_rounds_119 rfl ?_
        refine ⟨?_, hX, hi.rfl'⟩
        rw [if_pos (hx.resolve_right h1)]
  refine k_iload_n (pc' := 1) dX9_rounds_0 rfl ?_
  refine k_if_eq (tgt := 11) (pc' := 4) dX9_rounds_1 rfl (fun c_1 => ?_) (fun c_1 => ?_)
  · exact main (Or.inl c_1)
  refine k_iload_n (pc' := 5) dX9_rounds_4 rfl ?_
  refine k_iconst (pc' := 6) (v := nI 1) dX9_rounds_5 rfl ?_
  refine k_icmp_eq (tgt := 11) (pc' := 9) dX9_rounds_6 rfl (fun c_6 => ?_) (fun c_6 => ?_)
  · exact main (Or.inr c_6)
  refine k_iconst (pc' := 10) (v := -1) dX9_rounds_9 rfl ?_
  refine p_ireturn dX9_rounds_10 rfl ?_
  refine ⟨?_, hX, hi.rfl'⟩
  rw [if_neg c_1, if_neg (show ¬ x = 1 from c_6)]
end X4
