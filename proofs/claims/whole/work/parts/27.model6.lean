def mVa1 (b f : Nat → Int32) (i j : Nat) (s : Int32) : Int32 := s + b i * b j * f (6 * i + j)
def mVa2 (N : Nat) (b f : Nat → Int32) (i : Nat) (s : Int32) : Int32 := upn (N - (i + 1)) (i + 1) (mVa1 b f i) s
def mVa (N : Nat) (b f : Nat → Int32) : Int32 := upn N 0 (mVa2 N b f) (nI 0)
def mWid (n : Nat) (b : Nat → Int32) : Int32 := upn n 0 (fun i s => if s < mOff (b i) (nI 0) then mOff (b i) (nI 0) else s) (nI 0)
abbrev isW (n : Nat) (b : Nat → Int32) : Prop := wIn n b ∧ wSum n b = 1
/-- what walls() counts: many, broken, tight, first, best, most -/
abbrev I6 : Type := Int32 × Int32 × Int32 × Int32 × Int32 × Int32
def wlS (v : Int32) (s : I6) : I6 := (s.1 + nI 1, s.2.1 + (if v ≤ 0 then nI 0 else nI 1), s.2.2.1 + (if v = 0 then nI 1 else nI 0), (if v ≤ 0 then s.2.2.2.1 else if s.2.1 = 0 then s.1 else s.2.2.2.1), (if s.1 = 0 then s.1 else if v ≤ s.2.2.2.2.2 then s.2.2.2.2.1 else s.1), (if s.1 = 0 then v else if v ≤ s.2.2.2.2.2 then s.2.2.2.2.2 else v))
def mWl1 (N : Nat) (f b : Nat → Int32) (s : I6) : I6 := if isW N b then wlS (mVa N b f) s else s
def mWl (N m : Nat) (f b : Nat → Int32) : I6 := fldA (mWl1 N f) N m N b (nI 0, nI 0, nI 0, -2, -2, nI 0)
def pick5 (x : Int32) (s : I6) : Int32 := if x = 0 then s.1 else if x = 1 then s.2.1 else if x = 2 then s.2.2.1 else if x = 3 then s.2.2.2.1 else s.2.2.2.2.1
/-- finds(): how many are left ahead of it, and the row -/
abbrev IF : Type := Int32 × Option (Nat → Int32)
def mFi1 (N : Nat) (b : Nat → Int32) (s : IF) : IF := match s.2 with
  | some r => s
  | none => if isW N b then (if s.1 = 0 then (s.1, some b) else (s.1 + Int32.ofInt (-1), none)) else s
def mFi (N m : Nat) (b : Nat → Int32) (k : Int32) : IF := fldA (mFi1 N) N m N b (k, none)
def mFiB (N m : Nat) (b : Nat → Int32) (k : Int32) : Nat → Int32 := match (mFi N m b k).2 with
  | some r => r
  | none => sfx b 0 N (-(nI m))
def someI {α : Type} (o : Option α) : Int32 := match o with
  | some _ => 1
  | none => 0
section MODEL6
variable {G : GT} {σ : Sto} {N D T : Nat} {z : Nat → Int32} {a : Nat → Nat → Int32} {tb : Nat → Int64}
theorem c_begins (hN6 : N ≤ 6) {m : Nat} : ConP G mX10_begins 1 [.ref (adr G 84), .int (nI m)] (putM G σ N D T z a tb) (rV (putM G σ N D T z (va_up a 98 (mBe N m (a 98))) tb)) := by
  refine ConP.of rfl (Nat.le_of_ble_eq_true rfl) ?_
  refine k_iconst (pc' := 1) (v := nI 0) dX10_begins_0 rfl ?_
  refine k_istore_n (pc' := 2) dX10_begins_1 (Nat.le_of_ble_eq_true rfl) rfl ?_
  have key := loopU (fun p b => OkP G mX10_begins 1 (rV (putM G σ N D T z (va_up a 98 (mBe N m (a 98))) tb)) 2 [some (.ref (adr G 84)), some (.int (nI m)), some (.int (nI p))] [] (putM G σ N D T z (va_up a 98 b) tb)) (fun p b => upd b p (-(nI m))) N 0 N (a 98) (by omega) ?_ ?_
  · rw [up_id rfl] at key
    exact key
  · intro p b _ hp ih
    refine k_iload_n (pc' := 3) dX10_begins_2 rfl ?_
    refine k_aload_n (pc' := 4) dX10_begins_3 rfl ?_
    refine p_get (pc' := 7) clX10 (Nat.le_of_ble_eq_true rfl) fl_RX10_9 dX10_begins_4 (by first | assumption | decide | omega) (by first | rfl | assumption) rfl ?_
    refine k_icmp_ge (tgt := 24) (pc' := 10) dX10_begins_7 rfl (fun zz_ => absurd zz_ (nI_ge (by omega) (by omega))) (fun _ => ?_)
    refine k_aload_n (pc' := 11) dX10_begins_10 rfl ?_
    refine p_get (pc' := 14) clX10 (Nat.le_of_ble_eq_true rfl) fl_RX10_55 dX10_begins_11 (by first | assumption | decide | omega) (by first | rfl | assumption) rfl ?_
    refine k_iload_n (pc' := 15) dX10_begins_14 rfl ?_
    refine k_iload_n (pc' := 16) dX10_begins_15 rfl ?_
    refine k_ineg (pc' := 17) dX10_begins_16 rfl ?_
    refine p_iastN (pc' := 18) (σ1 := putM G σ N D T z (va_up a 98 (upd b p (-(nI m)))) tb) dX10_begins_17 (by first | assumption | decide | omega) (by first | rfl | assumption) (by first | decide | omega) (by first | omega | (simp only [mL85, mL86, mL87, mL88, mL89, mL90, mL91, mL92, mL93, mL94, mL95, mL96, mL97, mL98, mL100, mL101, mL102, mL103]; omega)) (by exact (by rw [pMa (by decide), up_up]; rfl)) ?_
    refine k_iinc (pc' := 21) (v := nI (p + 1)) dX10_begins_18 rfl (nI_inc _) (Nat.le_of_ble_eq_true rfl) rfl ?_
    refine k_goto (tgt := 2) dX10_begins_21 rfl ?_
    exact ih
  · refine k_iload_n (pc' := 3) dX10_begins_2 rfl ?_
    refine k_aload_n (pc' := 4) dX10_begins_3 rfl ?_
    refine p_get (pc' := 7) clX10 (Nat.le_of_ble_eq_true rfl) fl_RX10_9 dX10_begins_4 (by first | assumption | decide | omega) (by first | rfl | assumption) rfl ?_
    refine k_icmp_ge (tgt := 24) (pc' := 10) dX10_begins_7 rfl (fun _ => ?_) (fun zz_ => absurd (nI_le (by omega) (by omega)) zz_)
    refine p_return dX10_begins_24 rfl ?_
    exact ⟨rfl, rfl⟩
theorem c_goesOn (hN : 2 ≤ N) (hN6 : N ≤ 6) {m : Nat} {b : Nat → Int32} : ConP G mX10_goesOn 1 [.ref (adr G 84), .int (nI m)] (putM G σ N D T z (va_up a 98 b) tb) (rI (bI ((goM m N b).1 = true)) (putM G σ N D T z (va_up a 98 (goM m N b).2) tb)) := by
  generalize hR : goM m N b = R
  refine ConP.of rfl (Nat.le_of_ble_eq_true rfl) ?_
  refine k_aload_n (pc' := 1) dX10_goesOn_0 rfl ?_
  refine p_get (pc' := 4) clX10 (Nat.le_of_ble_eq_true rfl) fl_RX10_9 dX10_goesOn_1 (by first | assumption | decide | omega) (by first | rfl | assumption) rfl ?_
  refine k_iconst (pc' := 5) (v := nI 1) dX10_goesOn_4 rfl ?_
  refine k_isub (pc' := 6) (v := pv N) dX10_goesOn_5 (by rw [show N = (N - 1) + 1 by omega]; exact pk_sub (by omega)) ?_
  refine k_istore_n (pc' := 7) dX10_goesOn_6 (Nat.le_of_ble_eq_true rfl) rfl ?_
  have main : ∀ k (b : Nat → Int32), k ≤ N → goM m k b = R → OkP G mX10_goesOn 1 (rI (bI (R.1 = true)) (putM G σ N D T z (va_up a 98 R.2) tb)) 7 [some (.ref (adr G 84)), some (.int (nI m)), some (.int (pv k))] [] (putM G σ N D T z (va_up a 98 b) tb) := by
    intro k
    induction k with
    | zero =>
      intro b _ hb
      have hb : (false, b) = R := hb
      subst hb
      refine k_iload_n (pc' := 8) dX10_goesOn_7 rfl ?_
      refine k_if_lt (tgt := 35) (pc' := 11) dX10_goesOn_8 rfl (fun _ => ?_) (fun zz_ => absurd (by decide) zz_)
      refine k_iload_n (pc' := 36) dX10_goesOn_35 rfl ?_
      refine k_if_ge (tgt := 41) (pc' := 39) dX10_goesOn_36 rfl (fun zz_ => absurd zz_ (by decide)) (fun _ => ?_)
      refine k_iconst (pc' := 40) (v := nI 0) dX10_goesOn_39 rfl ?_
      refine p_zreturn dX10_goesOn_40 rfl (by first | exact Or.inl rfl | exact Or.inr rfl) ?_
      exact ⟨rfl, rfl⟩
    | succ k ih =>
      intro b hk hb
      have hb : (if b k = nI m then goM m k (upd b k (-(nI m))) else (true, upd b k (b k + nI 1))) = R := hb
      by_cases hc : b k = nI m
      · rw [if_pos hc] at hb
        refine k_iload_n (pc' := 8) dX10_goesOn_7 rfl ?_
        refine k_if_lt (tgt := 35) (pc' := 11) dX10_goesOn_8 rfl (fun zz_ => absurd zz_ (nI_pos (by omega))) (fun _ => ?_)
        refine k_aload_n (pc' := 12) dX10_goesOn_11 rfl ?_
        refine p_get (pc' := 15) clX10 (Nat.le_of_ble_eq_true rfl) fl_RX10_55 dX10_goesOn_12 (by first | assumption | decide | omega) (by first | rfl | assumption) rfl ?_
        refine k_iload_n (pc' := 16) dX10_goesOn_15 rfl ?_
        refine p_ialdN (pc' := 17) dX10_goesOn_16 (by first | assumption | decide | omega) (by first | rfl | assumption) (by first | decide | omega) (by first | omega | (simp only [mL85, mL86, mL87, mL88, mL89, mL90, mL91, mL92, mL93, mL94, mL95, mL96, mL97, mL98, mL100, mL101, mL102, mL103]; omega)) ?_
        refine k_iload_n (pc' := 18) dX10_goesOn_17 rfl ?_
        refine k_icmp_ne (tgt := 35) (pc' := 21) dX10_goesOn_18 rfl (fun zz_ => absurd hc zz_) (fun _ => ?_)
        refine k_aload_n (pc' := 22) dX10_goesOn_21 rfl ?_
        refine p_get (pc' := 25) clX10 (Nat.le_of_ble_eq_true rfl) fl_RX10_55 dX10_goesOn_22 (by first | assumption | decide | omega) (by first | rfl | assumption) rfl ?_
        refine k_iload_n (pc' := 26) dX10_goesOn_25 rfl ?_
        refine k_iload_n (pc' := 27) dX10_goesOn_26 rfl ?_
        refine k_ineg (pc' := 28) dX10_goesOn_27 rfl ?_
        refine p_iastN (pc' := 29) (σ1 := putM G σ N D T z (va_up a 98 (upd b k (-(nI m)))) tb) dX10_goesOn_28 (by first | assumption | decide | omega) (by first | rfl | assumption) (by first | decide | omega) (by first | omega | (simp only [mL85, mL86, mL87, mL88, mL89, mL90, mL91, mL92, mL93, mL94, mL95, mL96, mL97, mL98, mL100, mL101, mL102, mL103]; omega)) (by exact (by rw [pMa (by decide), up_up]; rfl)) ?_
        refine k_iinc (pc' := 32) (v := pv k) dX10_goesOn_29 rfl (pv_dec k) (Nat.le_of_ble_eq_true rfl) rfl ?_
        refine k_goto (tgt := 7) dX10_goesOn_32 rfl ?_
        exact ih _ (by omega) hb
      · rw [if_neg hc] at hb
        subst hb
        refine k_iload_n (pc' := 8) dX10_goesOn_7 rfl ?_
        refine k_if_lt (tgt := 35) (pc' := 11) dX10_goesOn_8 rfl (fun zz_ => absurd zz_ (nI_pos (by omega))) (fun _ => ?_)
        refine k_aload_n (pc' := 12) dX10_goesOn_11 rfl ?_
        refine p_get (pc' := 15) clX10 (Nat.le_of_ble_eq_true rfl) fl_RX10_55 dX10_goesOn_12 (by first | assumption | decide | omega) (by first | rfl | assumption) rfl ?_
        refine k_iload_n (pc' := 16) dX10_goesOn_15 rfl ?_
        refine p_ialdN (pc' := 17) dX10_goesOn_16 (by first | assumption | decide | omega) (by first | rfl | assumption) (by first | decide | omega) (by first | omega | (simp only [mL85, mL86, mL87, mL88, mL89, mL90, mL91, mL92, mL93, mL94, mL95, mL96, mL97, mL98, mL100, mL101, mL102, mL103]; omega)) ?_
        refine k_iload_n (pc' := 18) dX10_goesOn_17 rfl ?_
        refine k_icmp_ne (tgt := 35) (pc' := 21) dX10_goesOn_18 rfl (fun _ => ?_) (fun zz_ => absurd zz_ hc)
        refine k_iload_n (pc' := 36) dX10_goesOn_35 rfl ?_
        refine k_if_ge (tgt := 41) (pc' := 39) dX10_goesOn_36 rfl (fun _ => ?_) (fun zz_ => absurd (nI_pos' (by omega)) zz_)
        refine k_aload_n (pc' := 42) dX10_goesOn_41 rfl ?_
        refine p_get (pc' := 45) clX10 (Nat.le_of_ble_eq_true rfl) fl_RX10_55 dX10_goesOn_42 (by first | assumption | decide | omega) (by first | rfl | assumption) rfl ?_
        refine k_iload_n (pc' := 46) dX10_goesOn_45 rfl ?_
        refine k_dup2 (pc' := 47) dX10_goesOn_46 rfl rfl ?_
        refine p_ialdN (pc' := 48) dX10_goesOn_47 (by first | assumption | decide | omega) (by first | rfl | assumption) (by first | decide | omega) (by first | omega | (simp only [mL85, mL86, mL87, mL88, mL89, mL90, mL91, mL92, mL93, mL94, mL95, mL96, mL97, mL98, mL100, mL101, mL102, mL103]; omega)) ?_
        refine k_iconst (pc' := 49) (v := nI 1) dX10_goesOn_48 rfl ?_
        refine k_iadd (pc' := 50) (v := b k + nI 1) dX10_goesOn_49 rfl ?_
        refine p_iastN (pc' := 51) (σ1 := putM G σ N D T z (va_up a 98 (upd b k (b k + nI 1))) tb) dX10_goesOn_50 (by first | assumption | decide | omega) (by first | rfl | assumption) (by first | decide | omega) (by first | omega | (simp only [mL85, mL86, mL87, mL88, mL89, mL90, mL91, mL92, mL93, mL94, mL95, mL96, mL97, mL98, mL100, mL101, mL102, mL103]; omega)) (by exact (by rw [pMa (by decide), up_up]; rfl)) ?_
        refine k_iconst (pc' := 52) (v := nI 1) dX10_goesOn_51 rfl ?_
        refine p_zreturn dX10_goesOn_52 rfl (by first | exact Or.inl rfl | exact Or.inr rfl) ?_
        exact ⟨rfl, rfl⟩
  exact main N b (Nat.le_refl _) hR
theorem c_isWall {n : Nat} (hn : n ≤ 6) : ConP G mX10_isWall 2 [.ref (adr G 84), .int (nI n)] (putM G σ N D T z a tb) (rI (bI (isW n (a 98))) (putM G σ N D T z a tb)) := by
  refine ConP.of rfl (Nat.le_of_ble_eq_true rfl) ?_
  refine k_iconst (pc' := 1) (v := nI 0) dX10_isWall_0 rfl ?_
  refine k_istore_n (pc' := 2) dX10_isWall_1 (Nat.le_of_ble_eq_true rfl) rfl ?_
  refine k_iconst (pc' := 3) (v := nI 0) dX10_isWall_2 rfl ?_
  refine k_istore_n (pc' := 4) dX10_isWall_3 (Nat.le_of_ble_eq_true rfl) rfl ?_
  have main : ∀ m p s, p + m = n → (∀ q, q < p → -3 ≤ (a 98 q).toInt ∧ (a 98 q).toInt ≤ 3) → upn m p (fun i s => s + a 98 i) s = wSum n (a 98) → OkP G mX10_isWall 2 (rI (bI (isW n (a 98))) (putM G σ N D T z a tb)) 4 [some (.ref (adr G 84)), some (.int (nI n)), some (.int s), some (.int (nI p))] [] (putM G σ N D T z a tb) := by
    intro m
    induction m with
    | zero =>
      intro p s hp hq hs
      have hs : s = wSum n (a 98) := hs
      by_cases h1 : wSum n (a 98) = 1
      · refine k_iload_n (pc' := 5) dX10_isWall_4 rfl ?_
        refine k_iload_n (pc' := 6) dX10_isWall_5 rfl ?_
        refine k_icmp_ge (tgt := 45) (pc' := 9) dX10_isWall_6 rfl (fun _ => ?_) (fun zz_ => absurd (nI_le (by omega) (by omega)) zz_)
        refine k_iload_n (pc' := 46) dX10_isWall_45 rfl ?_
        refine k_iconst (pc' := 47) (v := nI 1) dX10_isWall_46 rfl ?_
        refine k_icmp_ne (tgt := 54) (pc' := 50) dX10_isWall_47 rfl (fun zz_ => absurd (hs.trans h1) zz_) (fun _ => ?_)
        refine k_iconst (pc' := 51) (v := nI 1) dX10_isWall_50 rfl ?_
        refine k_goto (tgt := 55) dX10_isWall_51 rfl ?_
        refine p_zreturn dX10_isWall_55 rfl (by first | exact Or.inl rfl | exact Or.inr rfl) ?_
        exact ⟨by rw [bI_t ⟨fun i hi => hq i (by omega), h1⟩]; rfl, rfl⟩
      · refine k_iload_n (pc' := 5) dX10_isWall_4 rfl ?_
        refine k_iload_n (pc' := 6) dX10_isWall_5 rfl ?_
        refine k_icmp_ge (tgt := 45) (pc' := 9) dX10_isWall_6 rfl (fun _ => ?_) (fun zz_ => absurd (nI_le (by omega) (by omega)) zz_)
        refine k_iload_n (pc' := 46) dX10_isWall_45 rfl ?_
        refine k_iconst (pc' := 47) (v := nI 1) dX10_isWall_46 rfl ?_
        refine k_icmp_ne (tgt := 54) (pc' := 50) dX10_isWall_47 rfl (fun _ => ?_) (fun zz_ => absurd zz_ (fun q => h1 (hs.symm.trans q)))
        refine k_iconst (pc' := 55) (v := nI 0) dX10_isWall_54 rfl ?_
        refine p_zreturn dX10_isWall_55 rfl (by first | exact Or.inl rfl | exact Or.inr rfl) ?_
        exact ⟨by rw [bI_f (fun q => h1 q.2)]; rfl, rfl⟩
    | succ m ih =>
      intro p s hp hq hs
      by_cases h1 : -3 ≤ (a 98 p).toInt ∧ (a 98 p).toInt ≤ 3
      · refine k_iload_n (pc' := 5) dX10_isWall_4 rfl ?_
        refine k_iload_n (pc' := 6) dX10_isWall_5 rfl ?_
        refine k_icmp_ge (tgt := 45) (pc' := 9) dX10_isWall_6 rfl (fun zz_ => absurd zz_ (nI_ge (by omega) (by omega))) (fun _ => ?_)
        refine k_aload_n (pc' := 10) dX10_isWall_9 rfl ?_
        refine p_get (pc' := 13) clX10 (Nat.le_of_ble_eq_true rfl) fl_RX10_55 dX10_isWall_10 (by first | assumption | decide | omega) (by first | rfl | assumption) rfl ?_
        refine k_iload_n (pc' := 14) dX10_isWall_13 rfl ?_
        refine p_ialdN (pc' := 15) dX10_isWall_14 (by first | assumption | decide | omega) (by first | rfl | assumption) (by first | decide | omega) (by first | omega | (simp only [mL85, mL86, mL87, mL88, mL89, mL90, mL91, mL92, mL93, mL94, mL95, mL96, mL97, mL98, mL100, mL101, mL102, mL103]; omega)) ?_
        refine k_i2l (pc' := 16) dX10_isWall_15 rfl ?_
        refine k_ldc2 (pc' := 19)  dX10_isWall_16 cl_RX10_144 ?_
        refine k_ldc2 (pc' := 22)  dX10_isWall_19 cl_RX10_146 ?_
        refine p_sI (ν := mX10_in) (pc' := 25) dX10_isWall_22 ml_RX10_77 mo_X10_in ms_X10_in (Nat.le_of_ble_eq_true rfl) rfl rfl (Nat.le_of_ble_eq_true rfl) (by decide) (c_in) ?_
        refine k_if_ne (tgt := 30) (pc' := 28) dX10_isWall_25 rfl (fun _ => ?_) (fun zz_ => absurd zz_ (by rw [bI_ne, i2l_e, show (-3 : Int64).toInt = -3 from rfl, show (3 : Int64).toInt = 3 from rfl]; exact h1))
        refine k_iload_n (pc' := 31) dX10_isWall_30 rfl ?_
        refine k_aload_n (pc' := 32) dX10_isWall_31 rfl ?_
        refine p_get (pc' := 35) clX10 (Nat.le_of_ble_eq_true rfl) fl_RX10_55 dX10_isWall_32 (by first | assumption | decide | omega) (by first | rfl | assumption) rfl ?_
        refine k_iload_n (pc' := 36) dX10_isWall_35 rfl ?_
        refine p_ialdN (pc' := 37) dX10_isWall_36 (by first | assumption | decide | omega) (by first | rfl | assumption) (by first | decide | omega) (by first | omega | (simp only [mL85, mL86, mL87, mL88, mL89, mL90, mL91, mL92, mL93, mL94, mL95, mL96, mL97, mL98, mL100, mL101, mL102, mL103]; omega)) ?_
        refine k_iadd (pc' := 38) (v := s + a 98 p) dX10_isWall_37 rfl ?_
        refine k_istore_n (pc' := 39) dX10_isWall_38 (Nat.le_of_ble_eq_true rfl) rfl ?_
        refine k_iinc (pc' := 42) (v := nI (p + 1)) dX10_isWall_39 rfl (nI_inc _) (Nat.le_of_ble_eq_true rfl) rfl ?_
        refine k_goto (tgt := 4) dX10_isWall_42 rfl ?_
        refine ih (p + 1) _ (by omega) (fun q h => ?_) hs
        rcases Nat.lt_or_ge q p with h2 | h2
        · exact hq q h2
        · have : q = p := by omega
          subst this
          exact h1
      · refine k_iload_n (pc' := 5) dX10_isWall_4 rfl ?_
        refine k_iload_n (pc' := 6) dX10_isWall_5 rfl ?_
        refine k_icmp_ge (tgt := 45) (pc' := 9) dX10_isWall_6 rfl (fun zz_ => absurd zz_ (nI_ge (by omega) (by omega))) (fun _ => ?_)
        refine k_aload_n (pc' := 10) dX10_isWall_9 rfl ?_
        refine p_get (pc' := 13) clX10 (Nat.le_of_ble_eq_true rfl) fl_RX10_55 dX10_isWall_10 (by first | assumption | decide | omega) (by first | rfl | assumption) rfl ?_
        refine k_iload_n (pc' := 14) dX10_isWall_13 rfl ?_
        refine p_ialdN (pc' := 15) dX10_isWall_14 (by first | assumption | decide | omega) (by first | rfl | assumption) (by first | decide | omega) (by first | omega | (simp only [mL85, mL86, mL87, mL88, mL89, mL90, mL91, mL92, mL93, mL94, mL95, mL96, mL97, mL98, mL100, mL101, mL102, mL103]; omega)) ?_
        refine k_i2l (pc' := 16) dX10_isWall_15 rfl ?_
        refine k_ldc2 (pc' := 19)  dX10_isWall_16 cl_RX10_144 ?_
        refine k_ldc2 (pc' := 22)  dX10_isWall_19 cl_RX10_146 ?_
        refine p_sI (ν := mX10_in) (pc' := 25) dX10_isWall_22 ml_RX10_77 mo_X10_in ms_X10_in (Nat.le_of_ble_eq_true rfl) rfl rfl (Nat.le_of_ble_eq_true rfl) (by decide) (c_in) ?_
        refine k_if_ne (tgt := 30) (pc' := 28) dX10_isWall_25 rfl (fun zz_ => absurd (by rw [bI_eq, i2l_e, show (-3 : Int64).toInt = -3 from rfl, show (3 : Int64).toInt = 3 from rfl]; exact h1) zz_) (fun _ => ?_)
        refine k_iconst (pc' := 29) (v := nI 0) dX10_isWall_28 rfl ?_
        refine p_zreturn dX10_isWall_29 rfl (by first | exact Or.inl rfl | exact Or.inr rfl) ?_
        exact ⟨by rw [bI_f (fun q => h1 (q.1 p (by omega)))]; rfl, rfl⟩
  exact main n 0 (nI 0) (by omega) (fun q h => by omega) rfl
theorem c_valueNow (hN6 : N ≤ 6) : ConP G mX10_valueNow 1 [.ref (adr G 84)] (putM G σ N D T z a tb) (rI (mVa N (a 98) (a 85)) (putM G σ N D T z a tb)) := by
  refine ConP.of rfl (Nat.le_of_ble_eq_true rfl) ?_
  refine k_iconst (pc' := 1) (v := nI 0) dX10_valueNow_0 rfl ?_
  refine k_istore_n (pc' := 2) dX10_valueNow_1 (Nat.le_of_ble_eq_true rfl) rfl ?_
  refine k_iconst (pc' := 3) (v := nI 0) dX10_valueNow_2 rfl ?_
  refine k_istore_n (pc' := 4) dX10_valueNow_3 (Nat.le_of_ble_eq_true rfl) rfl ?_
  refine loopU (fun i s => ∀ y, OkP G mX10_valueNow 1 (rI (mVa N (a 98) (a 85)) (putM G σ N D T z a tb)) 4 [some (.ref (adr G 84)), some (.int s), some (.int (nI i)), y] [] (putM G σ N D T z a tb)) (mVa2 N (a 98) (a 85)) N 0 N (nI 0) (by omega) ?_ ?_ none
  · intro i s _ hi ih y
    refine k_iload_n (pc' := 5) dX10_valueNow_4 rfl ?_
    refine k_aload_n (pc' := 6) dX10_valueNow_5 rfl ?_
    refine p_get (pc' := 9) clX10 (Nat.le_of_ble_eq_true rfl) fl_RX10_9 dX10_valueNow_6 (by first | assumption | decide | omega) (by first | rfl | assumption) rfl ?_
    refine k_icmp_ge (tgt := 64) (pc' := 12) dX10_valueNow_9 rfl (fun zz_ => absurd zz_ (nI_ge (by omega) (by omega))) (fun _ => ?_)
    refine k_iload_n (pc' := 13) dX10_valueNow_12 rfl ?_
    refine k_iconst (pc' := 14) (v := nI 1) dX10_valueNow_13 rfl ?_
    refine k_iadd (pc' := 15) dX10_valueNow_14 (by first | exact nI_add _ _ | rfl) ?_
    refine k_istore_n (pc' := 16) dX10_valueNow_15 (Nat.le_of_ble_eq_true rfl) rfl ?_
    refine loopU (fun j s => OkP G mX10_valueNow 1 (rI (mVa N (a 98) (a 85)) (putM G σ N D T z a tb)) 16 [some (.ref (adr G 84)), some (.int s), some (.int (nI i)), some (.int (nI j))] [] (putM G σ N D T z a tb)) (mVa1 (a 98) (a 85) i) N (i + 1) (N - (i + 1)) s (by omega) ?_ ?_
    · intro j s hij hj ih2
      refine k_iload_n (pc' := 17) dX10_valueNow_16 rfl ?_
      refine k_aload_n (pc' := 18) dX10_valueNow_17 rfl ?_
      refine p_get (pc' := 21) clX10 (Nat.le_of_ble_eq_true rfl) fl_RX10_9 dX10_valueNow_18 (by first | assumption | decide | omega) (by first | rfl | assumption) rfl ?_
      refine k_icmp_ge (tgt := 58) (pc' := 24) dX10_valueNow_21 rfl (fun zz_ => absurd zz_ (nI_ge (by omega) (by omega))) (fun _ => ?_)
      refine k_iload_n (pc' := 25) dX10_valueNow_24 rfl ?_
      refine k_aload_n (pc' := 26) dX10_valueNow_25 rfl ?_
      refine p_get (pc' := 29) clX10 (Nat.le_of_ble_eq_true rfl) fl_RX10_55 dX10_valueNow_26 (by first | assumption | decide | omega) (by first | rfl | assumption) rfl ?_
      refine k_iload_n (pc' := 30) dX10_valueNow_29 rfl ?_
      refine p_ialdN (pc' := 31) dX10_valueNow_30 (by first | assumption | decide | omega) (by first | rfl | assumption) (by first | decide | omega) (by first | omega | (simp only [mL85, mL86, mL87, mL88, mL89, mL90, mL91, mL92, mL93, mL94, mL95, mL96, mL97, mL98, mL100, mL101, mL102, mL103]; omega)) ?_
      refine k_aload_n (pc' := 32) dX10_valueNow_31 rfl ?_
      refine p_get (pc' := 35) clX10 (Nat.le_of_ble_eq_true rfl) fl_RX10_55 dX10_valueNow_32 (by first | assumption | decide | omega) (by first | rfl | assumption) rfl ?_
      refine k_iload_n (pc' := 36) dX10_valueNow_35 rfl ?_
      refine p_ialdN (pc' := 37) dX10_valueNow_36 (by first | assumption | decide | omega) (by first | rfl | assumption) (by first | decide | omega) (by first | omega | (simp only [mL85, mL86, mL87, mL88, mL89, mL90, mL91, mL92, mL93, mL94, mL95, mL96, mL97, mL98, mL100, mL101, mL102, mL103]; omega)) ?_
      refine k_imul (pc' := 38) (v := a 98 i * a 98 j) dX10_valueNow_37 rfl ?_
      refine k_aload_n (pc' := 39) dX10_valueNow_38 rfl ?_
      refine p_get (pc' := 42) clX10 (Nat.le_of_ble_eq_true rfl) fl_RX10_15 dX10_valueNow_39 (by first | assumption | decide | omega) (by first | rfl | assumption) rfl ?_
      refine k_bipush (pc' := 44) (v := nI 6) dX10_valueNow_42 rfl ?_
      refine k_iload_n (pc' := 45) dX10_valueNow_44 rfl ?_
      refine k_imul (pc' := 46) dX10_valueNow_45 (by first | exact pk_mul _ _ | rfl) ?_
      refine k_iload_n (pc' := 47) dX10_valueNow_46 rfl ?_
      refine k_iadd (pc' := 48) dX10_valueNow_47 (by first | exact nI_add _ _ | rfl) ?_
      refine p_ialdN (pc' := 49) dX10_valueNow_48 (by first | assumption | decide | omega) (by first | rfl | assumption) (by first | decide | omega) (by first | omega | (simp only [mL85, mL86, mL87, mL88, mL89, mL90, mL91, mL92, mL93, mL94, mL95, mL96, mL97, mL98, mL100, mL101, mL102, mL103]; omega)) ?_
      refine k_imul (pc' := 50) (v := a 98 i * a 98 j * a 85 (6 * i + j)) dX10_valueNow_49 rfl ?_
      refine k_iadd (pc' := 51) (v := s + a 98 i * a 98 j * a 85 (6 * i + j)) dX10_valueNow_50 rfl ?_
      refine k_istore_n (pc' := 52) dX10_valueNow_51 (Nat.le_of_ble_eq_true rfl) rfl ?_
      refine k_iinc (pc' := 55) (v := nI (j + 1)) dX10_valueNow_52 rfl (nI_inc _) (Nat.le_of_ble_eq_true rfl) rfl ?_
      refine k_goto (tgt := 16) dX10_valueNow_55 rfl ?_
      exact ih2
    · refine k_iload_n (pc' := 17) dX10_valueNow_16 rfl ?_
      refine k_aload_n (pc' := 18) dX10_valueNow_17 rfl ?_
      refine p_get (pc' := 21) clX10 (Nat.le_of_ble_eq_true rfl) fl_RX10_9 dX10_valueNow_18 (by first | assumption | decide | omega) (by first | rfl | assumption) rfl ?_
      refine k_icmp_ge (tgt := 58) (pc' := 24) dX10_valueNow_21 rfl (fun _ => ?_) (fun zz_ => absurd (nI_le (by omega) (by omega)) zz_)
      refine k_iinc (pc' := 61) (v := nI (i + 1)) dX10_valueNow_58 rfl (nI_inc _) (Nat.le_of_ble_eq_true rfl) rfl ?_
      refine k_goto (tgt := 4) dX10_valueNow_61 rfl ?_
      exact ih _
  · intro y
    refine k_iload_n (pc' := 5) dX10_valueNow_4 rfl ?_
    refine k_aload_n (pc' := 6) dX10_valueNow_5 rfl ?_
    refine p_get (pc' := 9) clX10 (Nat.le_of_ble_eq_true rfl) fl_RX10_9 dX10_valueNow_6 (by first | assumption | decide | omega) (by first | rfl | assumption) rfl ?_
    refine k_icmp_ge (tgt := 64) (pc' := 12) dX10_valueNow_9 rfl (fun _ => ?_) (fun zz_ => absurd (nI_le (by omega) (by omega)) zz_)
    refine k_iload_n (pc' := 65) dX10_valueNow_64 rfl ?_
    refine p_ireturn dX10_valueNow_65 rfl ?_
    exact ⟨rfl, rfl⟩
theorem c_widthNow {n : Nat} (hn : n ≤ 6) : ConP G mX10_widthNow 2 [.ref (adr G 84), .int (nI n)] (putM G σ N D T z a tb) (rI (mWid n (a 98)) (putM G σ N D T z a tb)) := by
  refine ConP.of rfl (Nat.le_of_ble_eq_true rfl) ?_
  refine k_iconst (pc' := 1) (v := nI 0) dX10_widthNow_0 rfl ?_
  refine k_istore_n (pc' := 2) dX10_widthNow_1 (Nat.le_of_ble_eq_true rfl) rfl ?_
  refine k_iconst (pc' := 3) (v := nI 0) dX10_widthNow_2 rfl ?_
  refine k_istore_n (pc' := 4) dX10_widthNow_3 (Nat.le_of_ble_eq_true rfl) rfl ?_
  refine loopU (fun p s => OkP G mX10_widthNow 2 (rI (mWid n (a 98)) (putM G σ N D T z a tb)) 4 [some (.ref (adr G 84)), some (.int (nI n)), some (.int s), some (.int (nI p))] [] (putM G σ N D T z a tb)) (fun i s => if s < mOff (a 98 i) (nI 0) then mOff (a 98 i) (nI 0) else s) n 0 n (nI 0) (by omega) ?_ ?_
  · intro p s _ hp ih
    refine k_iload_n (pc' := 5) dX10_widthNow_4 rfl ?_
    refine k_iload_n (pc' := 6) dX10_widthNow_5 rfl ?_
    refine k_icmp_ge (tgt := 30) (pc' := 9) dX10_widthNow_6 rfl (fun zz_ => absurd zz_ (nI_ge (by omega) (by omega))) (fun _ => ?_)
    refine k_iload_n (pc' := 10) dX10_widthNow_9 rfl ?_
    refine k_aload_n (pc' := 11) dX10_widthNow_10 rfl ?_
    refine p_get (pc' := 14) clX10 (Nat.le_of_ble_eq_true rfl) fl_RX10_55 dX10_widthNow_11 (by first | assumption | decide | omega) (by first | rfl | assumption) rfl ?_
    refine k_iload_n (pc' := 15) dX10_widthNow_14 rfl ?_
    refine p_ialdN (pc' := 16) dX10_widthNow_15 (by first | assumption | decide | omega) (by first | rfl | assumption) (by first | decide | omega) (by first | omega | (simp only [mL85, mL86, mL87, mL88, mL89, mL90, mL91, mL92, mL93, mL94, mL95, mL96, mL97, mL98, mL100, mL101, mL102, mL103]; omega)) ?_
    refine k_iconst (pc' := 17) (v := nI 0) dX10_widthNow_16 rfl ?_
    refine p_sI (ν := mX10_off) (pc' := 20) dX10_widthNow_17 ml_RX10_136 mo_X10_off ms_X10_off (Nat.le_of_ble_eq_true rfl) rfl rfl (Nat.le_of_ble_eq_true rfl) (by decide) (c_off) ?_
    refine p_max (pc' := 23) (v := (if s < mOff (a 98 p) (nI 0) then mOff (a 98 p) (nI 0) else s)) dX10_widthNow_20 ml_RX10_148 (by decide) (Nat.le_of_ble_eq_true rfl) rfl ?_
    refine k_istore_n (pc' := 24) dX10_widthNow_23 (Nat.le_of_ble_eq_true rfl) rfl ?_
    refine k_iinc (pc' := 27) (v := nI (p + 1)) dX10_widthNow_24 rfl (nI_inc _) (Nat.le_of_ble_eq_true rfl) rfl ?_
    refine k_goto (tgt := 4) dX10_widthNow_27 rfl ?_
    exact ih
  · refine k_iload_n (pc' := 5) dX10_widthNow_4 rfl ?_
    refine k_iload_n (pc' := 6) dX10_widthNow_5 rfl ?_
    refine k_icmp_ge (tgt := 30) (pc' := 9) dX10_widthNow_6 rfl (fun _ => ?_) (fun zz_ => absurd (nI_le (by omega) (by omega)) zz_)
    refine k_iload_n (pc' := 31) dX10_widthNow_30 rfl ?_
    refine p_ireturn dX10_widthNow_31 rfl ?_
    exact ⟨rfl, rfl⟩
/-- one look of walls() at a row -/
theorem m_wallsLoop (hN : 2 ≤ N) (hN6 : N ≤ 6) {m : Nat} (hm : m ≤ 3) {x : Int32} {b : Nat → Int32} {Q : Option Value → Sto → Prop} {s : I6}
    (fin : ∀ y, OkP G mX10_walls 3 Q 149 [some (.ref (adr G 84)), some (.int (nI m)), some (.int x), some (.int (fldA (mWl1 N (a 85)) N m N b s).1), some (.int (fldA (mWl1 N (a 85)) N m N b s).2.1), some (.int (fldA (mWl1 N (a 85)) N m N b s).2.2.1), some (.int (fldA (mWl1 N (a 85)) N m N b s).2.2.2.1), some (.int (fldA (mWl1 N (a 85)) N m N b s).2.2.2.2.1), some (.int (fldA (mWl1 N (a 85)) N m N b s).2.2.2.2.2), some (.int 0), y] [] (putM G σ N D T z (va_up a 98 (sfx b 0 N (-(nI m)))) tb)) :
    OkP G mX10_walls 3 Q 53 [some (.ref (adr G 84)), some (.int (nI m)), some (.int x), some (.int s.1), some (.int s.2.1), some (.int s.2.2.1), some (.int s.2.2.2.1), some (.int s.2.2.2.2.1), some (.int s.2.2.2.2.2), some (.int (nI 1)), none] [] (putM G σ N D T z (va_up a 98 (sfx b 0 N (-(nI m)))) tb) := by
  have key := odo (N := N) hm (fun b (s : I6) => ∀ y, OkP G mX10_walls 3 Q 53 [some (.ref (adr G 84)), some (.int (nI m)), some (.int x), some (.int s.1), some (.int s.2.1), some (.int s.2.2.1), some (.int s.2.2.2.1), some (.int s.2.2.2.2.1), some (.int s.2.2.2.2.2), some (.int (nI 1)), y] [] (putM G σ N D T z (va_up a 98 b) tb))
    (fun b (s : I6) => ∀ y, OkP G mX10_walls 3 Q 139 [some (.ref (adr G 84)), some (.int (nI m)), some (.int x), some (.int s.1), some (.int s.2.1), some (.int s.2.2.1), some (.int s.2.2.2.1), some (.int s.2.2.2.2.1), some (.int s.2.2.2.2.2), some (.int (nI 1)), y] [] (putM G σ N D T z (va_up a 98 b) tb)) (mWl1 N (a 85)) ?_ ?_ N (Nat.le_refl N) b s ?_
  · rw [Nat.sub_self] at key
    exact key none
  · intro b s h y
    unfold mWl1 at h
    by_cases hw : isW N b
    · rw [if_pos hw] at h
      refine k_iload (pc' := 55) dX10_walls_53 rfl ?_
      refine k_if_eq (tgt := 149) (pc' := 58) dX10_walls_55 rfl (fun zz_ => absurd zz_ (by decide)) (fun _ => ?_)
      refine k_aload_n (pc' := 59) dX10_walls_58 rfl ?_
      refine k_aload_n (pc' := 60) dX10_walls_59 rfl ?_
      refine p_get (pc' := 63) clX10 (Nat.le_of_ble_eq_true rfl) fl_RX10_9 dX10_walls_60 (by first | assumption | decide | omega) (by first | rfl | assumption) rfl ?_
      refine p_vI (ν := mX10_isWall) (pc' := 66) dX10_walls_63 ml_RX10_158 mo_X10_isWall mv_X10_isWall clX10 (Nat.le_of_ble_eq_true rfl) rfl rfl (Nat.le_of_ble_eq_true rfl) (by first | assumption | decide | omega) (by first | rfl | assumption) (by decide) (c_isWall hN6) ?_
      refine k_if_eq (tgt := 139) (pc' := 69) dX10_walls_66 rfl (fun zz_ => absurd zz_ (by rw [bI_eq]; exact fun q => q hw)) (fun _ => ?_)
      refine k_aload_n (pc' := 70) dX10_walls_69 rfl ?_
      refine p_vI (ν := mX10_valueNow) (pc' := 73) dX10_walls_70 ml_RX10_161 mo_X10_valueNow mv_X10_valueNow clX10 (Nat.le_of_ble_eq_true rfl) rfl rfl (Nat.le_of_ble_eq_true rfl) (by first | assumption | decide | omega) (by first | rfl | assumption) (by decide) (c_valueNow hN6) ?_
      refine k_istore (pc' := 75) dX10_walls_73 (Nat.le_of_ble_eq_true rfl) rfl ?_
      show OkP G mX10_walls 3 Q 75 [some (.ref (adr G 84)), some (.int (nI m)), some (.int x), some (.int s.1), some (.int s.2.1), some (.int s.2.2.1), some (.int s.2.2.2.1), some (.int s.2.2.2.2.1), some (.int s.2.2.2.2.2), some (.int (nI 1)), some (.int (mVa N b (a 85)))] [] (putM G σ N D T z (va_up a 98 b) tb)
      generalize mVa N b (a 85) = v at h ⊢
      have last : ∀ br ti fi : Int32, br = (wlS v s).2.1 → ti = (wlS v s).2.2.1 → fi = (wlS v s).2.2.2.1 → OkP G mX10_walls 3 Q 118 [some (.ref (adr G 84)), some (.int (nI m)), some (.int x), some (.int s.1), some (.int br), some (.int ti), some (.int fi), some (.int s.2.2.2.2.1), some (.int s.2.2.2.2.2), some (.int (nI 1)), some (.int v)] [] (putM G σ N D T z (va_up a 98 b) tb) := by
        intro br ti fi h1 h2 h3
        subst h1; subst h2; subst h3
        by_cases c1 : s.1 = 0
        · have e1 : (wlS v s).2.2.2.2.1 = s.1 := by show (if s.1 = 0 then s.1 else _) = _; rw [if_pos c1]
          have e2 : (wlS v s).2.2.2.2.2 = v := by show (if s.1 = 0 then v else _) = _; rw [if_pos c1]
          have h := h (some (.int v))
          rw [e1, e2] at h
          refine k_iload_n (pc' := 119) dX10_walls_118 rfl ?_
          refine k_if_eq (tgt := 129) (pc' := 122) dX10_walls_119 rfl (fun _ => ?_) (fun zz_ => absurd c1 zz_)
          refine k_iload_n (pc' := 130) dX10_walls_129 rfl ?_
          refine k_istore (pc' := 132) dX10_walls_130 (Nat.le_of_ble_eq_true rfl) rfl ?_
          refine k_iload (pc' := 134) dX10_walls_132 rfl ?_
          refine k_istore (pc' := 136) dX10_walls_134 (Nat.le_of_ble_eq_true rfl) rfl ?_
          refine k_iinc (pc' := 139) (v := s.1 + nI 1) dX10_walls_136 rfl rfl (Nat.le_of_ble_eq_true rfl) rfl ?_
          exact h
        · by_cases c2 : v ≤ s.2.2.2.2.2
          · have e1 : (wlS v s).2.2.2.2.1 = s.2.2.2.2.1 := by show (if s.1 = 0 then s.1 else if v ≤ s.2.2.2.2.2 then s.2.2.2.2.1 else s.1) = _; rw [if_neg c1, if_pos c2]
            have e2 : (wlS v s).2.2.2.2.2 = s.2.2.2.2.2 := by show (if s.1 = 0 then v else if v ≤ s.2.2.2.2.2 then s.2.2.2.2.2 else v) = _; rw [if_neg c1, if_pos c2]
            have h := h (some (.int v))
            rw [e1, e2] at h
            refine k_iload_n (pc' := 119) dX10_walls_118 rfl ?_
            refine k_if_eq (tgt := 129) (pc' := 122) dX10_walls_119 rfl (fun zz_ => absurd zz_ c1) (fun _ => ?_)
            refine k_iload (pc' := 124) dX10_walls_122 rfl ?_
            refine k_iload (pc' := 126) dX10_walls_124 rfl ?_
            refine k_icmp_le (tgt := 136) (pc' := 129) dX10_walls_126 rfl (fun _ => ?_) (fun zz_ => absurd c2 zz_)
            refine k_iinc (pc' := 139) (v := s.1 + nI 1) dX10_walls_136 rfl rfl (Nat.le_of_ble_eq_true rfl) rfl ?_
            exact h
          · have e1 : (wlS v s).2.2.2.2.1 = s.1 := by show (if s.1 = 0 then s.1 else if v ≤ s.2.2.2.2.2 then s.2.2.2.2.1 else s.1) = _; rw [if_neg c1, if_neg c2]
            have e2 : (wlS v s).2.2.2.2.2 = v := by show (if s.1 = 0 then v else if v ≤ s.2.2.2.2.2 then s.2.2.2.2.2 else v) = _; rw [if_neg c1, if_neg c2]
            have h := h (some (.int v))
            rw [e1, e2] at h
            refine k_iload_n (pc' := 119) dX10_walls_118 rfl ?_
            refine k_if_eq (tgt := 129) (pc' := 122) dX10_walls_119 rfl (fun zz_ => absurd zz_ c1) (fun _ => ?_)
            refine k_iload (pc' := 124) dX10_walls_122 rfl ?_
            refine k_iload (pc' := 126) dX10_walls_124 rfl ?_
            refine k_icmp_le (tgt := 136) (pc' := 129) dX10_walls_126 rfl (fun zz_ => absurd zz_ c2) (fun _ => ?_)
            refine k_iload_n (pc' := 130) dX10_walls_129 rfl ?_
            refine k_istore (pc' := 132) dX10_walls_130 (Nat.le_of_ble_eq_true rfl) rfl ?_
            refine k_iload (pc' := 134) dX10_walls_132 rfl ?_
            refine k_istore (pc' := 136) dX10_walls_134 (Nat.le_of_ble_eq_true rfl) rfl ?_
            refine k_iinc (pc' := 139) (v := s.1 + nI 1) dX10_walls_136 rfl rfl (Nat.le_of_ble_eq_true rfl) rfl ?_
            exact h
      have tight : ∀ br fi : Int32, br = (wlS v s).2.1 → fi = (wlS v s).2.2.2.1 → OkP G mX10_walls 3 Q 103 [some (.ref (adr G 84)), some (.int (nI m)), some (.int x), some (.int s.1), some (.int br), some (.int s.2.2.1), some (.int fi), some (.int s.2.2.2.2.1), some (.int s.2.2.2.2.2), some (.int (nI 1)), some (.int v)] [] (putM G σ N D T z (va_up a 98 b) tb) := by
        intro br fi h1 h3
        by_cases c0 : v = 0
        · refine k_iload (pc' := 105) dX10_walls_103 rfl ?_
          refine k_iload (pc' := 107) dX10_walls_105 rfl ?_
          refine k_if_ne (tgt := 114) (pc' := 110) dX10_walls_107 rfl (fun zz_ => absurd c0 zz_) (fun _ => ?_)
          refine k_iconst (pc' := 111) (v := nI 1) dX10_walls_110 rfl ?_
          refine k_goto (tgt := 115) dX10_walls_111 rfl ?_
          refine k_iadd (pc' := 116) (v := s.2.2.1 + nI 1) dX10_walls_115 rfl ?_
          refine k_istore (pc' := 118) dX10_walls_116 (Nat.le_of_ble_eq_true rfl) rfl ?_
          exact last br _ fi h1 (by show _ = s.2.2.1 + (if v = 0 then nI 1 else nI 0); rw [if_pos c0]) h3
        · refine k_iload (pc' := 105) dX10_walls_103 rfl ?_
          refine k_iload (pc' := 107) dX10_walls_105 rfl ?_
          refine k_if_ne (tgt := 114) (pc' := 110) dX10_walls_107 rfl (fun _ => ?_) (fun zz_ => absurd zz_ c0)
          refine k_iconst (pc' := 115) (v := nI 0) dX10_walls_114 rfl ?_
          refine k_iadd (pc' := 116) (v := s.2.2.1 + nI 0) dX10_walls_115 rfl ?_
          refine k_istore (pc' := 118) dX10_walls_116 (Nat.le_of_ble_eq_true rfl) rfl ?_
          exact last br _ fi h1 (by show _ = s.2.2.1 + (if v = 0 then nI 1 else nI 0); rw [if_neg c0]) h3
      by_cases c1 : v ≤ 0
      · refine k_iload (pc' := 77) dX10_walls_75 rfl ?_
        refine k_if_le (tgt := 88) (pc' := 80) dX10_walls_77 rfl (fun _ => ?_) (fun zz_ => absurd c1 zz_)
        refine k_iload (pc' := 90) dX10_walls_88 rfl ?_
        refine k_iload (pc' := 92) dX10_walls_90 rfl ?_
        refine k_if_le (tgt := 99) (pc' := 95) dX10_walls_92 rfl (fun _ => ?_) (fun zz_ => absurd c1 zz_)
        refine k_iconst (pc' := 100) (v := nI 0) dX10_walls_99 rfl ?_
        refine k_iadd (pc' := 101) (v := s.2.1 + nI 0) dX10_walls_100 rfl ?_
        refine k_istore (pc' := 103) dX10_walls_101 (Nat.le_of_ble_eq_true rfl) rfl ?_
        exact tight _ _ (by show _ = s.2.1 + (if v ≤ 0 then nI 0 else nI 1); rw [if_pos c1]) (by show _ = (if v ≤ 0 then s.2.2.2.1 else _); rw [if_pos c1])
      · by_cases c2 : s.2.1 = 0
        · refine k_iload (pc' := 77) dX10_walls_75 rfl ?_
          refine k_if_le (tgt := 88) (pc' := 80) dX10_walls_77 rfl (fun zz_ => absurd zz_ c1) (fun _ => ?_)
          refine k_iload (pc' := 82) dX10_walls_80 rfl ?_
          refine k_if_ne (tgt := 88) (pc' := 85) dX10_walls_82 rfl (fun zz_ => absurd c2 zz_) (fun _ => ?_)
          refine k_iload_n (pc' := 86) dX10_walls_85 rfl ?_
          refine k_istore (pc' := 88) dX10_walls_86 (Nat.le_of_ble_eq_true rfl) rfl ?_
          refine k_iload (pc' := 90) dX10_walls_88 rfl ?_
          refine k_iload (pc' := 92) dX10_walls_90 rfl ?_
          refine k_if_le (tgt := 99) (pc' := 95) dX10_walls_92 rfl (fun zz_ => absurd zz_ c1) (fun _ => ?_)
          refine k_iconst (pc' := 96) (v := nI 1) dX10_walls_95 rfl ?_
          refine k_goto (tgt := 100) dX10_walls_96 rfl ?_
          refine k_iadd (pc' := 101) (v := s.2.1 + nI 1) dX10_walls_100 rfl ?_
          refine k_istore (pc' := 103) dX10_walls_101 (Nat.le_of_ble_eq_true rfl) rfl ?_
          exact tight _ _ (by show _ = s.2.1 + (if v ≤ 0 then nI 0 else nI 1); rw [if_neg c1]) (by show _ = (if v ≤ 0 then s.2.2.2.1 else if s.2.1 = 0 then s.1 else s.2.2.2.1); rw [if_neg c1, if_pos c2])
        · refine k_iload (pc' := 77) dX10_walls_75 rfl ?_
          refine k_if_le (tgt := 88) (pc' := 80) dX10_walls_77 rfl (fun zz_ => absurd zz_ c1) (fun _ => ?_)
          refine k_iload (pc' := 82) dX10_walls_80 rfl ?_
          refine k_if_ne (tgt := 88) (pc' := 85) dX10_walls_82 rfl (fun _ => ?_) (fun zz_ => absurd zz_ c2)
          refine k_iload (pc' := 90) dX10_walls_88 rfl ?_
          refine k_iload (pc' := 92) dX10_walls_90 rfl ?_
          refine k_if_le (tgt := 99) (pc' := 95) dX10_walls_92 rfl (fun zz_ => absurd zz_ c1) (fun _ => ?_)
          refine k_iconst (pc' := 96) (v := nI 1) dX10_walls_95 rfl ?_
          refine k_goto (tgt := 100) dX10_walls_96 rfl ?_
          refine k_iadd (pc' := 101) (v := s.2.1 + nI 1) dX10_walls_100 rfl ?_
          refine k_istore (pc' := 103) dX10_walls_101 (Nat.le_of_ble_eq_true rfl) rfl ?_
          exact tight _ _ (by show _ = s.2.1 + (if v ≤ 0 then nI 0 else nI 1); rw [if_neg c1]) (by show _ = (if v ≤ 0 then s.2.2.2.1 else if s.2.1 = 0 then s.1 else s.2.2.2.1); rw [if_neg c1, if_neg c2])
    · rw [if_neg hw] at h
      refine k_iload (pc' := 55) dX10_walls_53 rfl ?_
      refine k_if_eq (tgt := 149) (pc' := 58) dX10_walls_55 rfl (fun zz_ => absurd zz_ (by decide)) (fun _ => ?_)
      refine k_aload_n (pc' := 59) dX10_walls_58 rfl ?_
      refine k_aload_n (pc' := 60) dX10_walls_59 rfl ?_
      refine p_get (pc' := 63) clX10 (Nat.le_of_ble_eq_true rfl) fl_RX10_9 dX10_walls_60 (by first | assumption | decide | omega) (by first | rfl | assumption) rfl ?_
      refine p_vI (ν := mX10_isWall) (pc' := 66) dX10_walls_63 ml_RX10_158 mo_X10_isWall mv_X10_isWall clX10 (Nat.le_of_ble_eq_true rfl) rfl rfl (Nat.le_of_ble_eq_true rfl) (by first | assumption | decide | omega) (by first | rfl | assumption) (by decide) (c_isWall hN6) ?_
      refine k_if_eq (tgt := 139) (pc' := 69) dX10_walls_66 rfl (fun _ => ?_) (fun zz_ => absurd (by rw [bI_eq]; exact hw) zz_)
      exact h _
  · intro b b' s hg h y
    refine k_aload_n (pc' := 140) dX10_walls_139 rfl ?_
    refine k_iload_n (pc' := 141) dX10_walls_140 rfl ?_
    refine p_vI (ν := mX10_goesOn) (pc' := 144) dX10_walls_141 ml_RX10_164 mo_X10_goesOn mv_X10_goesOn clX10 (Nat.le_of_ble_eq_true rfl) rfl rfl (Nat.le_of_ble_eq_true rfl) (by first | assumption | decide | omega) (by first | rfl | assumption) (by decide) (c_goesOn hN hN6) ?_
    refine k_istore (pc' := 146) dX10_walls_144 (Nat.le_of_ble_eq_true rfl) rfl ?_
    refine k_goto (tgt := 53) dX10_walls_146 rfl ?_
    rw [hg]
    exact h y
  · intro y
    rw [Nat.sub_self]
    refine k_aload_n (pc' := 140) dX10_walls_139 rfl ?_
    refine k_iload_n (pc' := 141) dX10_walls_140 rfl ?_
    refine p_vI (ν := mX10_goesOn) (pc' := 144) dX10_walls_141 ml_RX10_164 mo_X10_goesOn mv_X10_goesOn clX10 (Nat.le_of_ble_eq_true rfl) rfl rfl (Nat.le_of_ble_eq_true rfl) (by first | assumption | decide | omega) (by first | rfl | assumption) (by decide) (c_goesOn hN hN6) ?_
    refine k_istore (pc' := 146) dX10_walls_144 (Nat.le_of_ble_eq_true rfl) rfl ?_
    refine k_goto (tgt := 53) dX10_walls_146 rfl ?_
    refine k_iload (pc' := 55) dX10_walls_53 rfl ?_
    refine k_if_eq (tgt := 149) (pc' := 58) dX10_walls_55 rfl (fun _ => ?_) (fun zz_ => absurd (by rw [goM_end _ _ _ (fun i hi => by show sfx b 0 N (nI m) i = nI m; unfold sfx; rw [if_pos (by omega)])]; rfl) zz_)
    rw [goM_end _ _ _ (fun i hi => by show sfx b 0 N (nI m) i = nI m; unfold sfx; rw [if_pos (by omega)])]
    have e : sfx (sfx b 0 N (nI m)) 0 N (-(nI m)) = sfx b 0 N (-(nI m)) := by
      funext i
      unfold sfx
      by_cases h : 0 ≤ i ∧ i < N
      · rw [if_pos h, if_pos h]
      · rw [if_neg h, if_neg h, if_neg h]
    rw [e]
    exact fin y
end MODEL6
