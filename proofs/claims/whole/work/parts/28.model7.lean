/-- holdsWall(h): kinds, sizes, cells -/
def mHw (N h : Nat) (b : Nat → Int32) (a : Nat → Nat → Int32) : Nat → Nat → Int32 := va_up (va_up (va_up a 91 (upd (a 91) h (nI 2))) 92 (upd (a 92) h (nI N))) 93 (upn N 0 (fun p c => upd c (20 * h + p) (b p)) (a 93))
/-- a wall's row out of cells -/
def mLd (N h : Nat) (c b : Nat → Int32) : Nat → Int32 := upn N 0 (fun p b => upd b p (c (20 * h + p))) b
section MODEL7
variable {G : GT} {σ : Sto} {N D T : Nat} {z : Nat → Int32} {a : Nat → Nat → Int32} {tb : Nat → Int64}
theorem in_w {x : Int32} {lo hi : Int64} {p q : Int} (h1 : lo.toInt = p) (h2 : hi.toInt = q) : (lo.toInt ≤ x.toInt64.toInt ∧ x.toInt64.toInt ≤ hi.toInt) ↔ (p ≤ x.toInt ∧ x.toInt ≤ q) := by rw [i2l_e, h1, h2]
theorem m_walls (hN : 2 ≤ N) (hN6 : N ≤ 6) {x y : Int32} : ConP G mX10_walls 3 [.ref (adr G 84), .int x, .int y] (putM G σ N D T z a tb) (fun v σ' => (¬ ((1 ≤ x.toInt ∧ x.toInt ≤ 3) ∧ (0 ≤ y.toInt ∧ y.toInt ≤ 4)) ∧ rI (-1) (putM G σ N D T z a tb) v σ') ∨ ∃ m, x = nI m ∧ 1 ≤ m ∧ m ≤ 3 ∧ (0 ≤ y.toInt ∧ y.toInt ≤ 4) ∧ rI (pick5 y (mWl N m (a 85) (a 98))) (putM G σ N D T z (va_up a 98 (sfx (a 98) 0 N (-(nI m)))) tb) v σ') := by
  refine ConP.of rfl (Nat.le_of_ble_eq_true rfl) ?_
  refine k_iload_n (pc' := 1) dX10_walls_0 rfl ?_
  refine k_i2l (pc' := 2) dX10_walls_1 rfl ?_
  refine k_lconst (pc' := 3) (v := 1) dX10_walls_2 rfl ?_
  refine k_ldc2 (pc' := 6)  dX10_walls_3 cl_RX10_146 ?_
  refine p_sI (ν := mX10_in) (pc' := 9) dX10_walls_6 ml_RX10_77 mo_X10_in ms_X10_in (Nat.le_of_ble_eq_true rfl) rfl rfl (Nat.le_of_ble_eq_true rfl) (by decide) (c_in) ?_
  refine k_if_eq (tgt := 24) (pc' := 12) dX10_walls_9 rfl (fun c_9 => ?_) (fun c_9 => ?_)
  · rw [bI_eq, in_w (p := 1) (q := 3) rfl rfl] at c_9
    refine k_iconst (pc' := 25) (v := -1) dX10_walls_24 rfl ?_
    refine p_ireturn dX10_walls_25 rfl ?_
    exact Or.inl ⟨fun q => c_9 q.1, rfl, rfl⟩
  rw [bI_ne, in_w (p := 1) (q := 3) rfl rfl] at c_9
  refine k_iload_n (pc' := 13) dX10_walls_12 rfl ?_
  refine k_i2l (pc' := 14) dX10_walls_13 rfl ?_
  refine k_lconst (pc' := 15) (v := 0) dX10_walls_14 rfl ?_
  refine k_ldc2 (pc' := 18)  dX10_walls_15 cl_RX10_153 ?_
  refine p_sI (ν := mX10_in) (pc' := 21) dX10_walls_18 ml_RX10_77 mo_X10_in ms_X10_in (Nat.le_of_ble_eq_true rfl) rfl rfl (Nat.le_of_ble_eq_true rfl) (by decide) (c_in) ?_
  refine k_if_ne (tgt := 26) (pc' := 24) dX10_walls_21 rfl (fun c_21 => ?_) (fun c_21 => ?_)
  rotate_left
  · rw [bI_eq, in_w (p := 0) (q := 4) rfl rfl] at c_21
    refine k_iconst (pc' := 25) (v := -1) dX10_walls_24 rfl ?_
    refine p_ireturn dX10_walls_25 rfl ?_
    exact Or.inl ⟨fun q => c_21 q.2, rfl, rfl⟩
  rw [bI_ne, in_w (p := 0) (q := 4) rfl rfl] at c_21
  obtain ⟨m, hm, hx⟩ := nI_in0 (x := x) (n := 4) (by omega) (by omega) (by decide)
  subst hx
  rw [nI_e (by omega)] at c_9
  refine k_iconst (pc' := 27) (v := nI 0) dX10_walls_26 rfl ?_
  refine k_istore_n (pc' := 28) dX10_walls_27 (Nat.le_of_ble_eq_true rfl) rfl ?_
  refine k_iconst (pc' := 29) (v := nI 0) dX10_walls_28 rfl ?_
  refine k_istore (pc' := 31) dX10_walls_29 (Nat.le_of_ble_eq_true rfl) rfl ?_
  refine k_iconst (pc' := 32) (v := nI 0) dX10_walls_31 rfl ?_
  refine k_istore (pc' := 34) dX10_walls_32 (Nat.le_of_ble_eq_true rfl) rfl ?_
  refine k_bipush (pc' := 36) (v := -2) dX10_walls_34 rfl ?_
  refine k_istore (pc' := 38) dX10_walls_36 (Nat.le_of_ble_eq_true rfl) rfl ?_
  refine k_bipush (pc' := 40) (v := -2) dX10_walls_38 rfl ?_
  refine k_istore (pc' := 42) dX10_walls_40 (Nat.le_of_ble_eq_true rfl) rfl ?_
  refine k_iconst (pc' := 43) (v := nI 0) dX10_walls_42 rfl ?_
  refine k_istore (pc' := 45) dX10_walls_43 (Nat.le_of_ble_eq_true rfl) rfl ?_
  refine k_aload_n (pc' := 46) dX10_walls_45 rfl ?_
  refine k_iload_n (pc' := 47) dX10_walls_46 rfl ?_
  refine p_vV (ν := mX10_begins) (pc' := 50) dX10_walls_47 ml_RX10_155 mo_X10_begins mv_X10_begins clX10 (Nat.le_of_ble_eq_true rfl) rfl rfl (Nat.le_of_ble_eq_true rfl) (by first | assumption | decide | omega) (by first | rfl | assumption) (by decide) (c_begins hN6) ?_
  refine k_iconst (pc' := 51) (v := nI 1) dX10_walls_50 rfl ?_
  refine k_istore (pc' := 53) dX10_walls_51 (Nat.le_of_ble_eq_true rfl) rfl ?_
  rw [mBe_sfx]
  refine m_wallsLoop hN hN6 (by omega) (s := (nI 0, nI 0, nI 0, -2, -2, nI 0)) (fun w => ?_)
  show OkP G mX10_walls 3 _ 149 [some (.ref (adr G 84)), some (.int (nI m)), some (.int y), some (.int (mWl N m (a 85) (a 98)).1), some (.int (mWl N m (a 85) (a 98)).2.1), some (.int (mWl N m (a 85) (a 98)).2.2.1), some (.int (mWl N m (a 85) (a 98)).2.2.2.1), some (.int (mWl N m (a 85) (a 98)).2.2.2.2.1), some (.int (mWl N m (a 85) (a 98)).2.2.2.2.2), some (.int 0), w] [] (putM G σ N D T z (va_up a 98 (sfx (a 98) 0 N (-(nI m)))) tb)
  generalize hR : mWl N m (a 85) (a 98) = R
  have fin : ∀ r, r = pick5 y R → ∀ σ', σ' = putM G σ N D T z (va_up a 98 (sfx (a 98) 0 N (-(nI m)))) tb → ((¬ ((1 ≤ (nI m).toInt ∧ (nI m).toInt ≤ 3) ∧ (0 ≤ y.toInt ∧ y.toInt ≤ 4)) ∧ rI (-1) (putM G σ N D T z a tb) (some (.int r)) σ') ∨ ∃ m', nI m = nI m' ∧ 1 ≤ m' ∧ m' ≤ 3 ∧ (0 ≤ y.toInt ∧ y.toInt ≤ 4) ∧ rI (pick5 y (mWl N m' (a 85) (a 98))) (putM G σ N D T z (va_up a 98 (sfx (a 98) 0 N (-(nI m')))) tb) (some (.int r)) σ') := by
    intro r hr σ' hσ
    exact Or.inr ⟨m, rfl, by omega, by omega, c_21, by rw [hR, hr], hσ⟩
  obtain ⟨k, hk, hy⟩ := nI_in0 (x := y) (n := 5) (by omega) (by omega) (by decide)
  subst hy
  rcases (show k = 0 ∨ k = 1 ∨ k = 2 ∨ k = 3 ∨ k = 4 by omega) with rfl | rfl | rfl | rfl | rfl
  · refine k_iload_n (pc' := 150) dX10_walls_149 rfl ?_
    refine k_tswIn (tgt := 180) dX10_walls_150 (by decide) (by decide) rfl rfl ?_
    refine k_iload_n (pc' := 181) dX10_walls_180 rfl ?_
    refine p_ireturn dX10_walls_181 rfl ?_
    exact fin _ rfl _ rfl
  · refine k_iload_n (pc' := 150) dX10_walls_149 rfl ?_
    refine k_tswIn (tgt := 182) dX10_walls_150 (by decide) (by decide) rfl rfl ?_
    refine k_iload (pc' := 184) dX10_walls_182 rfl ?_
    refine p_ireturn dX10_walls_184 rfl ?_
    exact fin _ rfl _ rfl
  · refine k_iload_n (pc' := 150) dX10_walls_149 rfl ?_
    refine k_tswIn (tgt := 185) dX10_walls_150 (by decide) (by decide) rfl rfl ?_
    refine k_iload (pc' := 187) dX10_walls_185 rfl ?_
    refine p_ireturn dX10_walls_187 rfl ?_
    exact fin _ rfl _ rfl
  · refine k_iload_n (pc' := 150) dX10_walls_149 rfl ?_
    refine k_tswIn (tgt := 188) dX10_walls_150 (by decide) (by decide) rfl rfl ?_
    refine k_iload (pc' := 190) dX10_walls_188 rfl ?_
    refine p_ireturn dX10_walls_190 rfl ?_
    exact fin _ rfl _ rfl
  · refine k_iload_n (pc' := 150) dX10_walls_149 rfl ?_
    refine k_tswOut (tgt := 191) dX10_walls_150 (Or.inr (by decide)) rfl ?_
    refine k_iload (pc' := 193) dX10_walls_191 rfl ?_
    refine p_ireturn dX10_walls_193 rfl ?_
    exact fin _ rfl _ rfl
theorem c_finds (hN : 2 ≤ N) (hN6 : N ≤ 6) {m : Nat} (hm : m ≤ 3) {k : Int32} : ConP G mX10_finds 3 [.ref (adr G 84), .int (nI m), .int k] (putM G σ N D T z a tb) (rI (someI (mFi N m (a 98) k).2) (putM G σ N D T z (va_up a 98 (mFiB N m (a 98) k)) tb)) := by
  refine ConP.of rfl (Nat.le_of_ble_eq_true rfl) ?_
  refine k_iload_n (pc' := 1) dX10_finds_0 rfl ?_
  refine k_istore_n (pc' := 2) dX10_finds_1 (Nat.le_of_ble_eq_true rfl) rfl ?_
  refine k_aload_n (pc' := 3) dX10_finds_2 rfl ?_
  refine k_iload_n (pc' := 4) dX10_finds_3 rfl ?_
  refine p_vV (ν := mX10_begins) (pc' := 7) dX10_finds_4 ml_RX10_155 mo_X10_begins mv_X10_begins clX10 (Nat.le_of_ble_eq_true rfl) rfl rfl (Nat.le_of_ble_eq_true rfl) (by first | assumption | decide | omega) (by first | rfl | assumption) (by decide) (c_begins hN6) ?_
  refine k_iconst (pc' := 8) (v := nI 1) dX10_finds_7 rfl ?_
  refine k_istore (pc' := 10) dX10_finds_8 (Nat.le_of_ble_eq_true rfl) rfl ?_
  rw [mBe_sfx]
  generalize hQ : rI (someI (mFi N m (a 98) k).2) (putM G σ N D T z (va_up a 98 (mFiB N m (a 98) k)) tb) = Q
  have key := odo (N := N) hm (fun b (s : IF) => match s.2 with
      | some r => Q (some (.int 1)) (putM G σ N D T z (va_up a 98 r) tb)
      | none => OkP G mX10_finds 3 Q 10 [some (.ref (adr G 84)), some (.int (nI m)), some (.int k), some (.int s.1), some (.int (nI 1))] [] (putM G σ N D T z (va_up a 98 b) tb))
    (fun b (s : IF) => match s.2 with
      | some r => Q (some (.int 1)) (putM G σ N D T z (va_up a 98 r) tb)
      | none => OkP G mX10_finds 3 Q 35 [some (.ref (adr G 84)), some (.int (nI m)), some (.int k), some (.int s.1), some (.int (nI 1))] [] (putM G σ N D T z (va_up a 98 b) tb)) (mFi1 N) ?_ ?_ N (Nat.le_refl N) (a 98) (k, none) ?_
  · rw [Nat.sub_self] at key
    exact key
  · intro b s h
    obtain ⟨l, o⟩ := s
    cases o with
    | some r => exact h
    | none =>
      show OkP G mX10_finds 3 Q 10 [some (.ref (adr G 84)), some (.int (nI m)), some (.int k), some (.int l), some (.int (nI 1))] [] (putM G σ N D T z (va_up a 98 b) tb)
      unfold mFi1 at h
      dsimp only at h
      by_cases hw : isW N b
      · rw [if_pos hw] at h
        by_cases h0 : l = 0
        · rw [if_pos h0] at h
          refine k_iload (pc' := 12) dX10_finds_10 rfl ?_
          refine k_if_eq (tgt := 45) (pc' := 15) dX10_finds_12 rfl (fun zz_ => absurd zz_ (by decide)) (fun _ => ?_)
          refine k_aload_n (pc' := 16) dX10_finds_15 rfl ?_
          refine k_aload_n (pc' := 17) dX10_finds_16 rfl ?_
          refine p_get (pc' := 20) clX10 (Nat.le_of_ble_eq_true rfl) fl_RX10_9 dX10_finds_17 (by first | assumption | decide | omega) (by first | rfl | assumption) rfl ?_
          refine p_vI (ν := mX10_isWall) (pc' := 23) dX10_finds_20 ml_RX10_158 mo_X10_isWall mv_X10_isWall clX10 (Nat.le_of_ble_eq_true rfl) rfl rfl (Nat.le_of_ble_eq_true rfl) (by first | assumption | decide | omega) (by first | rfl | assumption) (by decide) (c_isWall hN6) ?_
          refine k_if_eq (tgt := 35) (pc' := 26) dX10_finds_23 rfl (fun zz_ => absurd zz_ (by rw [bI_eq]; exact fun q => q hw)) (fun _ => ?_)
          refine k_iload_n (pc' := 27) dX10_finds_26 rfl ?_
          refine k_if_ne (tgt := 32) (pc' := 30) dX10_finds_27 rfl (fun zz_ => absurd h0 zz_) (fun _ => ?_)
          refine k_iconst (pc' := 31) (v := nI 1) dX10_finds_30 rfl ?_
          refine p_zreturn dX10_finds_31 rfl (by first | exact Or.inl rfl | exact Or.inr rfl) ?_
          exact h
        · rw [if_neg h0] at h
          refine k_iload (pc' := 12) dX10_finds_10 rfl ?_
          refine k_if_eq (tgt := 45) (pc' := 15) dX10_finds_12 rfl (fun zz_ => absurd zz_ (by decide)) (fun _ => ?_)
          refine k_aload_n (pc' := 16) dX10_finds_15 rfl ?_
          refine k_aload_n (pc' := 17) dX10_finds_16 rfl ?_
          refine p_get (pc' := 20) clX10 (Nat.le_of_ble_eq_true rfl) fl_RX10_9 dX10_finds_17 (by first | assumption | decide | omega) (by first | rfl | assumption) rfl ?_
          refine p_vI (ν := mX10_isWall) (pc' := 23) dX10_finds_20 ml_RX10_158 mo_X10_isWall mv_X10_isWall clX10 (Nat.le_of_ble_eq_true rfl) rfl rfl (Nat.le_of_ble_eq_true rfl) (by first | assumption | decide | omega) (by first | rfl | assumption) (by decide) (c_isWall hN6) ?_
          refine k_if_eq (tgt := 35) (pc' := 26) dX10_finds_23 rfl (fun zz_ => absurd zz_ (by rw [bI_eq]; exact fun q => q hw)) (fun _ => ?_)
          refine k_iload_n (pc' := 27) dX10_finds_26 rfl ?_
          refine k_if_ne (tgt := 32) (pc' := 30) dX10_finds_27 rfl (fun _ => ?_) (fun zz_ => absurd zz_ h0)
          refine k_iinc (pc' := 35) (v := l + Int32.ofInt (-1)) dX10_finds_32 rfl rfl (Nat.le_of_ble_eq_true rfl) rfl ?_
          exact h
      · rw [if_neg hw] at h
        refine k_iload (pc' := 12) dX10_finds_10 rfl ?_
        refine k_if_eq (tgt := 45) (pc' := 15) dX10_finds_12 rfl (fun zz_ => absurd zz_ (by decide)) (fun _ => ?_)
        refine k_aload_n (pc' := 16) dX10_finds_15 rfl ?_
        refine k_aload_n (pc' := 17) dX10_finds_16 rfl ?_
        refine p_get (pc' := 20) clX10 (Nat.le_of_ble_eq_true rfl) fl_RX10_9 dX10_finds_17 (by first | assumption | decide | omega) (by first | rfl | assumption) rfl ?_
        refine p_vI (ν := mX10_isWall) (pc' := 23) dX10_finds_20 ml_RX10_158 mo_X10_isWall mv_X10_isWall clX10 (Nat.le_of_ble_eq_true rfl) rfl rfl (Nat.le_of_ble_eq_true rfl) (by first | assumption | decide | omega) (by first | rfl | assumption) (by decide) (c_isWall hN6) ?_
        refine k_if_eq (tgt := 35) (pc' := 26) dX10_finds_23 rfl (fun _ => ?_) (fun zz_ => absurd (by rw [bI_eq]; exact hw) zz_)
        exact h
  · intro b b' s hg h
    obtain ⟨l, o⟩ := s
    cases o with
    | some r => exact h
    | none =>
      show OkP G mX10_finds 3 Q 35 [some (.ref (adr G 84)), some (.int (nI m)), some (.int k), some (.int l), some (.int (nI 1))] [] (putM G σ N D T z (va_up a 98 b) tb)
      refine k_aload_n (pc' := 36) dX10_finds_35 rfl ?_
      refine k_iload_n (pc' := 37) dX10_finds_36 rfl ?_
      refine p_vI (ν := mX10_goesOn) (pc' := 40) dX10_finds_37 ml_RX10_164 mo_X10_goesOn mv_X10_goesOn clX10 (Nat.le_of_ble_eq_true rfl) rfl rfl (Nat.le_of_ble_eq_true rfl) (by first | assumption | decide | omega) (by first | rfl | assumption) (by decide) (c_goesOn hN hN6) ?_
      refine k_istore (pc' := 42) dX10_finds_40 (Nat.le_of_ble_eq_true rfl) rfl ?_
      refine k_goto (tgt := 10) dX10_finds_42 rfl ?_
      rw [hg]
      exact h
  · rw [Nat.sub_self]
    show match (mFi N m (a 98) k).2 with
      | some r => Q (some (.int 1)) (putM G σ N D T z (va_up a 98 r) tb)
      | none => OkP G mX10_finds 3 Q 35 [some (.ref (adr G 84)), some (.int (nI m)), some (.int k), some (.int (mFi N m (a 98) k).1), some (.int (nI 1))] [] (putM G σ N D T z (va_up a 98 (sfx (a 98) 0 N (nI m))) tb)
    unfold mFiB at hQ
    cases ho : (mFi N m (a 98) k).2 with
    | some r =>
      rw [ho] at hQ
      rw [← hQ]
      exact ⟨rfl, rfl⟩
    | none =>
      rw [ho] at hQ
      dsimp only
      refine k_aload_n (pc' := 36) dX10_finds_35 rfl ?_
      refine k_iload_n (pc' := 37) dX10_finds_36 rfl ?_
      refine p_vI (ν := mX10_goesOn) (pc' := 40) dX10_finds_37 ml_RX10_164 mo_X10_goesOn mv_X10_goesOn clX10 (Nat.le_of_ble_eq_true rfl) rfl rfl (Nat.le_of_ble_eq_true rfl) (by first | assumption | decide | omega) (by first | rfl | assumption) (by decide) (c_goesOn hN hN6) ?_
      refine k_istore (pc' := 42) dX10_finds_40 (Nat.le_of_ble_eq_true rfl) rfl ?_
      refine k_goto (tgt := 10) dX10_finds_42 rfl ?_
      refine k_iload (pc' := 12) dX10_finds_10 rfl ?_
      refine k_if_eq (tgt := 45) (pc' := 15) dX10_finds_12 rfl (fun _ => ?_) (fun zz_ => absurd (by rw [goM_end _ _ _ (fun i hi => by show sfx (a 98) 0 N (nI m) i = nI m; unfold sfx; rw [if_pos (by omega)])]; rfl) zz_)
      refine k_iconst (pc' := 46) (v := nI 0) dX10_finds_45 rfl ?_
      refine p_zreturn dX10_finds_46 rfl (by first | exact Or.inl rfl | exact Or.inr rfl) ?_
      rw [← hQ]
      refine ⟨rfl, ?_⟩
      rw [goM_end _ _ _ (fun i hi => by show sfx (a 98) 0 N (nI m) i = nI m; unfold sfx; rw [if_pos (by omega)])]
      have e : sfx (sfx (a 98) 0 N (nI m)) 0 N (-(nI m)) = sfx (a 98) 0 N (-(nI m)) := by
        funext i
        unfold sfx
        by_cases h : 0 ≤ i ∧ i < N
        · rw [if_pos h, if_pos h]
        · rw [if_neg h, if_neg h, if_neg h]
      rw [e]
theorem someI_0 {α : Type} {o : Option α} : someI o = 0 ↔ o = none := by cases o <;> simp [someI]
theorem m_wall (hN : 2 ≤ N) (hN6 : N ≤ 6) {x y w : Int32} : ConP G mX10_wall 4 [.ref (adr G 84), .int x, .int y, .int w] (putM G σ N D T z a tb) (fun v σ' => (¬ ((1 ≤ x.toInt ∧ x.toInt ≤ 3) ∧ (0 ≤ w.toInt ∧ w.toInt < N) ∧ 0 ≤ y.toInt) ∧ rI (-1) (putM G σ N D T z a tb) v σ') ∨ ∃ m i, x = nI m ∧ 1 ≤ m ∧ m ≤ 3 ∧ w = nI i ∧ i < N ∧ 0 ≤ y.toInt ∧ rI (match (mFi N m (a 98) y).2 with | some r => r i + nI 3 | none => -2) (putM G σ N D T z (va_up a 98 (mFiB N m (a 98) y)) tb) v σ') := by
  refine ConP.of rfl (Nat.le_of_ble_eq_true rfl) ?_
  refine k_iload_n (pc' := 1) dX10_wall_0 rfl ?_
  refine k_i2l (pc' := 2) dX10_wall_1 rfl ?_
  refine k_lconst (pc' := 3) (v := 1) dX10_wall_2 rfl ?_
  refine k_ldc2 (pc' := 6)  dX10_wall_3 cl_RX10_146 ?_
  refine p_sI (ν := mX10_in) (pc' := 9) dX10_wall_6 ml_RX10_77 mo_X10_in ms_X10_in (Nat.le_of_ble_eq_true rfl) rfl rfl (Nat.le_of_ble_eq_true rfl) (by decide) (c_in) ?_
  refine k_if_eq (tgt := 24) (pc' := 12) dX10_wall_9 rfl (fun c_9 => ?_) (fun c_9 => ?_)
  · rw [bI_eq, in_w (p := 1) (q := 3) rfl rfl] at c_9
    refine k_iconst (pc' := 25) (v := -1) dX10_wall_24 rfl ?_
    refine p_ireturn dX10_wall_25 rfl ?_
    exact Or.inl ⟨fun q => c_9 q.1, rfl, rfl⟩
  rw [bI_ne, in_w (p := 1) (q := 3) rfl rfl] at c_9
  refine k_aload_n (pc' := 13) dX10_wall_12 rfl ?_
  refine k_iload_n (pc' := 14) dX10_wall_13 rfl ?_
  refine p_vI (ν := mX10_isPoint) (pc' := 17) dX10_wall_14 ml_RX10_81 mo_X10_isPoint mv_X10_isPoint clX10 (Nat.le_of_ble_eq_true rfl) rfl rfl (Nat.le_of_ble_eq_true rfl) (by first | assumption | decide | omega) (by first | rfl | assumption) (by decide) (c_isPoint hN hN6) ?_
  refine k_if_eq (tgt := 24) (pc' := 20) dX10_wall_17 rfl (fun c_17 => ?_) (fun c_17 => ?_)
  · rw [bI_eq] at c_17
    refine k_iconst (pc' := 25) (v := -1) dX10_wall_24 rfl ?_
    refine p_ireturn dX10_wall_25 rfl ?_
    exact Or.inl ⟨fun q => c_17 q.2.1, rfl, rfl⟩
  rw [bI_ne] at c_17
  refine k_iload_n (pc' := 21) dX10_wall_20 rfl ?_
  refine k_if_ge (tgt := 26) (pc' := 24) dX10_wall_21 rfl (fun c_21 => ?_) (fun c_21 => ?_)
  rotate_left
  · rw [iLe, i0] at c_21
    refine k_iconst (pc' := 25) (v := -1) dX10_wall_24 rfl ?_
    refine p_ireturn dX10_wall_25 rfl ?_
    exact Or.inl ⟨fun q => c_21 q.2.2, rfl, rfl⟩
  rw [iLe, i0] at c_21
  obtain ⟨m, hm, hx⟩ := nI_in0 (x := x) (n := 4) (by omega) (by omega) (by decide)
  obtain ⟨i, hi, hw⟩ := nI_in0 c_17.1 c_17.2 (by omega)
  subst hx; subst hw
  rw [nI_e (by omega)] at c_9
  refine k_aload_n (pc' := 27) dX10_wall_26 rfl ?_
  refine k_iload_n (pc' := 28) dX10_wall_27 rfl ?_
  refine k_iload_n (pc' := 29) dX10_wall_28 rfl ?_
  refine p_vI (ν := mX10_finds) (pc' := 32) dX10_wall_29 ml_RX10_167 mo_X10_finds mv_X10_finds clX10 (Nat.le_of_ble_eq_true rfl) rfl rfl (Nat.le_of_ble_eq_true rfl) (by first | assumption | decide | omega) (by first | rfl | assumption) (by decide) (c_finds hN hN6 (by omega)) ?_
  cases ho : (mFi N m (a 98) y).2 with
  | some r =>
    have e : mFiB N m (a 98) y = r := by unfold mFiB; rw [ho]
    refine k_if_eq (tgt := 46) (pc' := 35) dX10_wall_32 rfl (fun zz_ => absurd zz_ (by rw [someI_0]; exact fun q => by cases q)) (fun _ => ?_)
    refine k_aload_n (pc' := 36) dX10_wall_35 rfl ?_
    refine p_get (pc' := 39) clX10 (Nat.le_of_ble_eq_true rfl) fl_RX10_55 dX10_wall_36 (by first | assumption | decide | omega) (by first | rfl | assumption) rfl ?_
    refine k_iload_n (pc' := 40) dX10_wall_39 rfl ?_
    refine p_ialdN (pc' := 41) dX10_wall_40 (by first | assumption | decide | omega) (by first | rfl | assumption) (by first | decide | omega) (by first | omega | (simp only [mL85, mL86, mL87, mL88, mL89, mL90, mL91, mL92, mL93, mL94, mL95, mL96, mL97, mL98, mL100, mL101, mL102, mL103]; omega)) ?_
    refine k_iconst (pc' := 42) (v := nI 3) dX10_wall_41 rfl ?_
    refine k_iadd (pc' := 43) (v := r i + nI 3) dX10_wall_42 (by rw [show (va_up a 98 (mFiB N m (a 98) y) 98) = r from (up_s.trans e)]) ?_
    refine k_goto (tgt := 48) dX10_wall_43 rfl ?_
    refine p_ireturn dX10_wall_48 rfl ?_
    exact Or.inr ⟨m, i, rfl, by omega, by omega, rfl, hi, c_21, by rw [ho], rfl⟩
  | none =>
    refine k_if_eq (tgt := 46) (pc' := 35) dX10_wall_32 rfl (fun _ => ?_) (fun zz_ => absurd rfl zz_)
    refine k_bipush (pc' := 48) (v := -2) dX10_wall_46 rfl ?_
    refine p_ireturn dX10_wall_48 rfl ?_
    exact Or.inr ⟨m, i, rfl, by omega, by omega, rfl, hi, c_21, by rw [ho], rfl⟩
theorem c_mIsHolder {x : Int32} : ConP G mX10_isHolder 2 [.int x] σ (rI (bI (0 ≤ x.toInt ∧ x.toInt ≤ 5)) σ) := by
  refine ConP.of rfl (Nat.le_of_ble_eq_true rfl) ?_
  refine k_iload_n (pc' := 1) dX10_isHolder_0 rfl ?_
  refine k_i2l (pc' := 2) dX10_isHolder_1 rfl ?_
  refine k_lconst (pc' := 3) (v := 0) dX10_isHolder_2 rfl ?_
  refine k_ldc2 (pc' := 6)  dX10_isHolder_3 cl_RX10_170 ?_
  refine p_sI (ν := mX10_in) (pc' := 9) dX10_isHolder_6 ml_RX10_77 mo_X10_in ms_X10_in (Nat.le_of_ble_eq_true rfl) rfl rfl (Nat.le_of_ble_eq_true rfl) (by decide) (c_in) ?_
  refine p_zreturn dX10_isHolder_9 rfl bI_01 ?_
  refine ⟨?_, rfl⟩
  congr 2
  exact bI_congr (in_w rfl rfl)
theorem c_holdsWall (hN : 2 ≤ N) (hN6 : N ≤ 6) {h : Nat} (hh : h < 6) : ConP G mX10_holdsWall 3 [.ref (adr G 84), .int (nI h)] (putM G σ N D T z a tb) (rI (mWid N (a 98)) (putM G σ N D T z (mHw N h (a 98) a) tb)) := by
  refine ConP.of rfl (Nat.le_of_ble_eq_true rfl) ?_
  refine k_aload_n (pc' := 1) dX10_holdsWall_0 rfl ?_
  refine p_get (pc' := 4) clX10 (Nat.le_of_ble_eq_true rfl) fl_RX10_34 dX10_holdsWall_1 (by first | assumption | decide | omega) (by first | rfl | assumption) rfl ?_
  refine k_iload_n (pc' := 5) dX10_holdsWall_4 rfl ?_
  refine k_iconst (pc' := 6) (v := nI 2) dX10_holdsWall_5 rfl ?_
  refine p_iastN (pc' := 7) dX10_holdsWall_6 (by first | assumption | decide | omega) (by first | rfl | assumption) (by first | decide | omega) (by first | omega | (simp only [mL85, mL86, mL87, mL88, mL89, mL90, mL91, mL92, mL93, mL94, mL95, mL96, mL97, mL98, mL100, mL101, mL102, mL103]; omega)) (by exact pMa (by decide)) ?_
  refine k_aload_n (pc' := 8) dX10_holdsWall_7 rfl ?_
  refine p_get (pc' := 11) clX10 (Nat.le_of_ble_eq_true rfl) fl_RX10_37 dX10_holdsWall_8 (by first | assumption | decide | omega) (by first | rfl | assumption) rfl ?_
  refine k_iload_n (pc' := 12) dX10_holdsWall_11 rfl ?_
  refine k_aload_n (pc' := 13) dX10_holdsWall_12 rfl ?_
  refine p_get (pc' := 16) clX10 (Nat.le_of_ble_eq_true rfl) fl_RX10_9 dX10_holdsWall_13 (by first | assumption | decide | omega) (by first | rfl | assumption) rfl ?_
  refine p_iastN (pc' := 17) dX10_holdsWall_16 (by first | assumption | decide | omega) (by first | rfl | assumption) (by first | decide | omega) (by first | omega | (simp only [mL85, mL86, mL87, mL88, mL89, mL90, mL91, mL92, mL93, mL94, mL95, mL96, mL97, mL98, mL100, mL101, mL102, mL103]; omega)) (by exact pMa (by decide)) ?_
  refine k_iconst (pc' := 18) (v := nI 0) dX10_holdsWall_17 rfl ?_
  refine k_istore_n (pc' := 19) dX10_holdsWall_18 (Nat.le_of_ble_eq_true rfl) rfl ?_
  have key := loopU (fun p c => OkP G mX10_holdsWall 3 (rI (mWid N (a 98)) (putM G σ N D T z (mHw N h (a 98) a) tb)) 19 [some (.ref (adr G 84)), some (.int (nI h)), some (.int (nI p))] [] (putM G σ N D T z (va_up (va_up (va_up a 91 (upd (a 91) h (nI 2))) 92 (upd (a 92) h (nI N))) 93 c) tb)) (fun p c => upd c (20 * h + p) (a 98 p)) N 0 N (a 93) (by omega) ?_ ?_
  · rw [show va_up (va_up (va_up a 91 (upd (a 91) h (nI 2))) 92 (upd (a 92) h (nI N))) 93 (a 93) = va_up (va_up a 91 (upd (a 91) h (nI 2))) 92 (upd (a 92) h (nI N)) from up_id (by rw [up_n (by decide), up_n (by decide)])] at key
    exact key
  · intro p c _ hp ih
    refine k_iload_n (pc' := 20) dX10_holdsWall_19 rfl ?_
    refine k_aload_n (pc' := 21) dX10_holdsWall_20 rfl ?_
    refine p_get (pc' := 24) clX10 (Nat.le_of_ble_eq_true rfl) fl_RX10_9 dX10_holdsWall_21 (by first | assumption | decide | omega) (by first | rfl | assumption) rfl ?_
    refine k_icmp_ge (tgt := 50) (pc' := 27) dX10_holdsWall_24 rfl (fun zz_ => absurd zz_ (nI_ge (by omega) (by omega))) (fun _ => ?_)
    refine k_aload_n (pc' := 28) dX10_holdsWall_27 rfl ?_
    refine p_get (pc' := 31) clX10 (Nat.le_of_ble_eq_true rfl) fl_RX10_40 dX10_holdsWall_28 (by first | assumption | decide | omega) (by first | rfl | assumption) rfl ?_
    refine k_bipush (pc' := 33) (v := nI 20) dX10_holdsWall_31 rfl ?_
    refine k_iload_n (pc' := 34) dX10_holdsWall_33 rfl ?_
    refine k_imul (pc' := 35) dX10_holdsWall_34 (by first | exact pk_mul _ _ | rfl) ?_
    refine k_iload_n (pc' := 36) dX10_holdsWall_35 rfl ?_
    refine k_iadd (pc' := 37) dX10_holdsWall_36 (by first | exact nI_add _ _ | rfl) ?_
    refine k_aload_n (pc' := 38) dX10_holdsWall_37 rfl ?_
    refine p_get (pc' := 41) clX10 (Nat.le_of_ble_eq_true rfl) fl_RX10_55 dX10_holdsWall_38 (by first | assumption | decide | omega) (by first | rfl | assumption) rfl ?_
    refine k_iload_n (pc' := 42) dX10_holdsWall_41 rfl ?_
    refine p_ialdN (pc' := 43) dX10_holdsWall_42 (by first | assumption | decide | omega) (by first | rfl | assumption) (by first | decide | omega) (by first | omega | (simp only [mL85, mL86, mL87, mL88, mL89, mL90, mL91, mL92, mL93, mL94, mL95, mL96, mL97, mL98, mL100, mL101, mL102, mL103]; omega)) ?_
    refine p_iastN (pc' := 44) (σ1 := putM G σ N D T z (va_up (va_up (va_up a 91 (upd (a 91) h (nI 2))) 92 (upd (a 92) h (nI N))) 93 (upd c (20 * h + p) (a 98 p))) tb) dX10_holdsWall_43 (by first | assumption | decide | omega) (by first | rfl | assumption) (by first | decide | omega) (by first | omega | (simp only [mL85, mL86, mL87, mL88, mL89, mL90, mL91, mL92, mL93, mL94, mL95, mL96, mL97, mL98, mL100, mL101, mL102, mL103]; omega)) (by exact (by rw [pMa (by decide), up_up]; rfl)) ?_
    refine k_iinc (pc' := 47) (v := nI (p + 1)) dX10_holdsWall_44 rfl (nI_inc _) (Nat.le_of_ble_eq_true rfl) rfl ?_
    refine k_goto (tgt := 19) dX10_holdsWall_47 rfl ?_
    exact ih
  · refine k_iload_n (pc' := 20) dX10_holdsWall_19 rfl ?_
    refine k_aload_n (pc' := 21) dX10_holdsWall_20 rfl ?_
    refine p_get (pc' := 24) clX10 (Nat.le_of_ble_eq_true rfl) fl_RX10_9 dX10_holdsWall_21 (by first | assumption | decide | omega) (by first | rfl | assumption) rfl ?_
    refine k_icmp_ge (tgt := 50) (pc' := 27) dX10_holdsWall_24 rfl (fun _ => ?_) (fun zz_ => absurd (nI_le (by omega) (by omega)) zz_)
    refine k_aload_n (pc' := 51) dX10_holdsWall_50 rfl ?_
    refine k_aload_n (pc' := 52) dX10_holdsWall_51 rfl ?_
    refine p_get (pc' := 55) clX10 (Nat.le_of_ble_eq_true rfl) fl_RX10_9 dX10_holdsWall_52 (by first | assumption | decide | omega) (by first | rfl | assumption) rfl ?_
    refine p_vI (ν := mX10_widthNow) (pc' := 58) dX10_holdsWall_55 ml_RX10_172 mo_X10_widthNow mv_X10_widthNow clX10 (Nat.le_of_ble_eq_true rfl) rfl rfl (Nat.le_of_ble_eq_true rfl) (by first | assumption | decide | omega) (by first | rfl | assumption) (by decide) (c_widthNow hN6) ?_
    refine p_ireturn dX10_holdsWall_58 rfl ?_
    exact ⟨rfl, rfl⟩
theorem m_holdWall (hN : 2 ≤ N) (hN6 : N ≤ 6) {x y w : Int32} : ConP G mX10_holdWall 4 [.ref (adr G 84), .int x, .int y, .int w] (putM G σ N D T z a tb) (fun v σ' => (¬ ((0 ≤ x.toInt ∧ x.toInt ≤ 5) ∧ (1 ≤ y.toInt ∧ y.toInt ≤ 3) ∧ 0 ≤ w.toInt) ∧ rI (-1) (putM G σ N D T z a tb) v σ') ∨ ∃ h m, x = nI h ∧ h < 6 ∧ y = nI m ∧ 1 ≤ m ∧ m ≤ 3 ∧ 0 ≤ w.toInt ∧ (((mFi N m (a 98) w).2 = none ∧ rI (-2) (putM G σ N D T z (va_up a 98 (mFiB N m (a 98) w)) tb) v σ') ∨ ∃ r, (mFi N m (a 98) w).2 = some r ∧ rI (mWid N r) (putM G σ N D T z (mHw N h r (va_up a 98 r)) tb) v σ')) := by
  refine ConP.of rfl (Nat.le_of_ble_eq_true rfl) ?_
  refine k_iload_n (pc' := 1) dX10_holdWall_0 rfl ?_
  refine p_sI (ν := mX10_isHolder) (pc' := 4) dX10_holdWall_1 ml_RX10_176 mo_X10_isHolder ms_X10_isHolder (Nat.le_of_ble_eq_true rfl) rfl rfl (Nat.le_of_ble_eq_true rfl) (by decide) (c_mIsHolder) ?_
  refine k_if_eq (tgt := 23) (pc' := 7) dX10_holdWall_4 rfl (fun c_4 => ?_) (fun c_4 => ?_)
  · rw [bI_eq] at c_4
    refine k_iconst (pc' := 24) (v := -1) dX10_holdWall_23 rfl ?_
    refine p_ireturn dX10_holdWall_24 rfl ?_
    exact Or.inl ⟨fun q => c_4 q.1, rfl, rfl⟩
  rw [bI_ne] at c_4
  refine k_iload_n (pc' := 8) dX10_holdWall_7 rfl ?_
  refine k_i2l (pc' := 9) dX10_holdWall_8 rfl ?_
  refine k_lconst (pc' := 10) (v := 1) dX10_holdWall_9 rfl ?_
  refine k_ldc2 (pc' := 13)  dX10_holdWall_10 cl_RX10_146 ?_
  refine p_sI (ν := mX10_in) (pc' := 16) dX10_holdWall_13 ml_RX10_77 mo_X10_in ms_X10_in (Nat.le_of_ble_eq_true rfl) rfl rfl (Nat.le_of_ble_eq_true rfl) (by decide) (c_in) ?_
  refine k_if_eq (tgt := 23) (pc' := 19) dX10_holdWall_16 rfl (fun c_16 => ?_) (fun c_16 => ?_)
  · rw [bI_eq, in_w (p := 1) (q := 3) rfl rfl] at c_16
    refine k_iconst (pc' := 24) (v := -1) dX10_holdWall_23 rfl ?_
    refine p_ireturn dX10_holdWall_24 rfl ?_
    exact Or.inl ⟨fun q => c_16 q.2.1, rfl, rfl⟩
  rw [bI_ne, in_w (p := 1) (q := 3) rfl rfl] at c_16
  refine k_iload_n (pc' := 20) dX10_holdWall_19 rfl ?_
  refine k_if_ge (tgt := 25) (pc' := 23) dX10_holdWall_20 rfl (fun c_20 => ?_) (fun c_20 => ?_)
  rotate_left
  · rw [iLe, i0] at c_20
    refine k_iconst (pc' := 24) (v := -1) dX10_holdWall_23 rfl ?_
    refine p_ireturn dX10_holdWall_24 rfl ?_
    exact Or.inl ⟨fun q => c_20 q.2.2, rfl, rfl⟩
  rw [iLe, i0] at c_20
  obtain ⟨m, hm, hy⟩ := nI_in0 (x := y) (n := 4) (by omega) (by omega) (by decide)
  obtain ⟨h, hh, hx⟩ := nI_in0 (x := x) (n := 6) (by omega) (by omega) (by decide)
  subst hx; subst hy
  rw [nI_e (by omega)] at c_16
  refine k_aload_n (pc' := 26) dX10_holdWall_25 rfl ?_
  refine k_iload_n (pc' := 27) dX10_holdWall_26 rfl ?_
  refine k_iload_n (pc' := 28) dX10_holdWall_27 rfl ?_
  refine p_vI (ν := mX10_finds) (pc' := 31) dX10_holdWall_28 ml_RX10_167 mo_X10_finds mv_X10_finds clX10 (Nat.le_of_ble_eq_true rfl) rfl rfl (Nat.le_of_ble_eq_true rfl) (by first | assumption | decide | omega) (by first | rfl | assumption) (by decide) (c_finds hN hN6 (by omega)) ?_
  cases ho : (mFi N m (a 98) w).2 with
  | some r =>
    have e : mFiB N m (a 98) w = r := by unfold mFiB; rw [ho]
    rw [e]
    refine k_if_eq (tgt := 42) (pc' := 34) dX10_holdWall_31 rfl (fun zz_ => absurd zz_ (by rw [someI_0]; exact fun q => by cases q)) (fun _ => ?_)
    refine k_aload_n (pc' := 35) dX10_holdWall_34 rfl ?_
    refine k_iload_n (pc' := 36) dX10_holdWall_35 rfl ?_
    refine p_vI (ν := mX10_holdsWall) (pc' := 39) dX10_holdWall_36 ml_RX10_179 mo_X10_holdsWall mv_X10_holdsWall clX10 (Nat.le_of_ble_eq_true rfl) rfl rfl (Nat.le_of_ble_eq_true rfl) (by first | assumption | decide | omega) (by first | rfl | assumption) (by decide) (c_holdsWall hN hN6 hh) ?_
    refine k_goto (tgt := 44) dX10_holdWall_39 rfl ?_
    refine p_ireturn dX10_holdWall_44 rfl ?_
    exact Or.inr ⟨h, m, rfl, hh, rfl, by omega, by omega, c_20, Or.inr ⟨r, ho, rfl, rfl⟩⟩
  | none =>
    refine k_if_eq (tgt := 42) (pc' := 34) dX10_holdWall_31 rfl (fun _ => ?_) (fun zz_ => absurd rfl zz_)
    refine k_bipush (pc' := 44) (v := -2) dX10_holdWall_42 rfl ?_
    refine p_ireturn dX10_holdWall_44 rfl ?_
    exact Or.inr ⟨h, m, rfl, hh, rfl, by omega, by omega, c_20, Or.inl ⟨ho, rfl, rfl⟩⟩
end MODEL7
