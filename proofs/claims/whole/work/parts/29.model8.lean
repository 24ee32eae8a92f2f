def mBar (N h : Nat) (a : Nat → Nat → Int32) : Int32 := if a 91 h = 0 then -11 else if a 91 h = nI 2 then (if a 92 h = nI N then 0 else -5) else -12
def mRt1 (x : Int32) (b : Nat → Int32) (i j : Nat) (s : Int32) : Int32 := s + (if sepP x i j then b i * b j else nI 0)
def mRt2 (N : Nat) (x : Int32) (b : Nat → Int32) (i : Nat) (s : Int32) : Int32 := upn (N - (i + 1)) (i + 1) (mRt1 x b i) s
def mRt (N : Nat) (x : Int32) (b : Nat → Int32) : Int32 := upn N 0 (mRt2 N x b) (nI 0)
/-- the k-th root from the cut s on, n of them left -/
def rtF (N : Nat) (b : Nat → Int32) : Nat → Nat → Int32 → Option Nat
  | 0, _, _ => none
  | n + 1, s, l => if mRt N (nI s) b = 0 then (if l = 0 then some s else rtF N b n (s + 1) (l + Int32.ofInt (-1))) else rtF N b n (s + 1) l
def swS (N : Nat) (x : Int32) (b : Nat → Int32) : Int32 := upn N 0 (fun p s => s + (if hasP x p then b p else nI 0)) (nI 0)
def swC (N : Nat) (x : Int32) (b : Nat → Int32) : Int32 := upn N 0 (fun p s => s + (if hasP x p ∧ ¬ b p = 0 then nI 1 else nI 0)) (nI 0)
def swW (N h : Nat) (x : Int32) (b c : Nat → Int32) : Nat → Int32 := upn N 0 (fun p c => if hasP x p then upd c (20 * h + p) (-(b p)) else c) c
section MODEL8
variable {G : GT} {σ : Sto} {N D T : Nat} {z : Nat → Int32} {a : Nat → Nat → Int32} {tb : Nat → Int64}
theorem m_wallOf (hN : 2 ≤ N) (hN6 : N ≤ 6) {x y : Int32} : ConP G mX10_wallOf 4 [.ref (adr G 84), .int x, .int y] (putM G σ N D T z a tb) (fun v σ' => (¬ ((0 ≤ x.toInt ∧ x.toInt ≤ 5) ∧ (0 ≤ y.toInt ∧ y.toInt ≤ 5)) ∧ rI (-1) (putM G σ N D T z a tb) v σ') ∨ ∃ h f, x = nI h ∧ h < 6 ∧ y = nI f ∧ f < 6 ∧ ((a 91 f = 0 ∧ rI (-11) (putM G σ N D T z a tb) v σ') ∨ (¬ a 91 f = 0 ∧ ¬ a 91 f = nI 3 ∧ rI (-12) (putM G σ N D T z a tb) v σ') ∨ (a 91 f = nI 3 ∧ ¬ nI N ≤ a 92 f ∧ rI (-5) (putM G σ N D T z a tb) v σ') ∨ (a 91 f = nI 3 ∧ nI N ≤ a 92 f ∧ ¬ isW N (mLd N f (a 93) (a 98)) ∧ rI (-5) (putM G σ N D T z (va_up a 98 (mLd N f (a 93) (a 98))) tb) v σ') ∨ (a 91 f = nI 3 ∧ nI N ≤ a 92 f ∧ isW N (mLd N f (a 93) (a 98)) ∧ rI (mWid N (mLd N f (a 93) (a 98))) (putM G σ N D T z (mHw N h (mLd N f (a 93) (a 98)) (va_up a 98 (mLd N f (a 93) (a 98)))) tb) v σ'))) := by
  refine ConP.of rfl (Nat.le_of_ble_eq_true rfl) ?_
  refine k_iload_n (pc' := 1) dX10_wallOf_0 rfl ?_
  refine p_sI (ν := mX10_isHolder) (pc' := 4) dX10_wallOf_1 ml_RX10_176 mo_X10_isHolder ms_X10_isHolder (Nat.le_of_ble_eq_true rfl) rfl rfl (Nat.le_of_ble_eq_true rfl) (by decide) (c_mIsHolder) ?_
  refine k_if_eq (tgt := 14) (pc' := 7) dX10_wallOf_4 rfl (fun c_4 => ?_) (fun c_4 => ?_)
  · rw [bI_eq] at c_4
    refine k_iconst (pc' := 15) (v := -1) dX10_wallOf_14 rfl ?_
    refine p_ireturn dX10_wallOf_15 rfl ?_
    exact Or.inl ⟨fun q => c_4 q.1, rfl, rfl⟩
  rw [bI_ne] at c_4
  refine k_iload_n (pc' := 8) dX10_wallOf_7 rfl ?_
  refine p_sI (ν := mX10_isHolder) (pc' := 11) dX10_wallOf_8 ml_RX10_176 mo_X10_isHolder ms_X10_isHolder (Nat.le_of_ble_eq_true rfl) rfl rfl (Nat.le_of_ble_eq_true rfl) (by decide) (c_mIsHolder) ?_
  refine k_if_ne (tgt := 16) (pc' := 14) dX10_wallOf_11 rfl (fun c_11 => ?_) (fun c_11 => ?_)
  rotate_left
  · rw [bI_eq] at c_11
    refine k_iconst (pc' := 15) (v := -1) dX10_wallOf_14 rfl ?_
    refine p_ireturn dX10_wallOf_15 rfl ?_
    exact Or.inl ⟨fun q => c_11 q.2, rfl, rfl⟩
  rw [bI_ne] at c_11
  obtain ⟨h, hh, hx⟩ := nI_in0 (x := x) (n := 6) (by omega) (by omega) (by decide)
  obtain ⟨f, hf, hy⟩ := nI_in0 (x := y) (n := 6) (by omega) (by omega) (by decide)
  subst hx; subst hy
  refine k_aload_n (pc' := 17) dX10_wallOf_16 rfl ?_
  refine p_get (pc' := 20) clX10 (Nat.le_of_ble_eq_true rfl) fl_RX10_34 dX10_wallOf_17 (by first | assumption | decide | omega) (by first | rfl | assumption) rfl ?_
  refine k_iload_n (pc' := 21) dX10_wallOf_20 rfl ?_
  refine p_ialdN (pc' := 22) dX10_wallOf_21 (by first | assumption | decide | omega) (by first | rfl | assumption) (by first | decide | omega) (by first | omega | (simp only [mL85, mL86, mL87, mL88, mL89, mL90, mL91, mL92, mL93, mL94, mL95, mL96, mL97, mL98, mL100, mL101, mL102, mL103]; omega)) ?_
  refine k_if_ne (tgt := 28) (pc' := 25) dX10_wallOf_22 rfl (fun c_22 => ?_) (fun c_22 => ?_)
  rotate_left
  · refine k_bipush (pc' := 27) (v := -11) dX10_wallOf_25 rfl ?_
    refine p_ireturn dX10_wallOf_27 rfl ?_
    exact Or.inr ⟨h, f, rfl, hh, rfl, hf, Or.inl ⟨c_22, rfl, rfl⟩⟩
  refine k_aload_n (pc' := 29) dX10_wallOf_28 rfl ?_
  refine p_get (pc' := 32) clX10 (Nat.le_of_ble_eq_true rfl) fl_RX10_34 dX10_wallOf_29 (by first | assumption | decide | omega) (by first | rfl | assumption) rfl ?_
  refine k_iload_n (pc' := 33) dX10_wallOf_32 rfl ?_
  refine p_ialdN (pc' := 34) dX10_wallOf_33 (by first | assumption | decide | omega) (by first | rfl | assumption) (by first | decide | omega) (by first | omega | (simp only [mL85, mL86, mL87, mL88, mL89, mL90, mL91, mL92, mL93, mL94, mL95, mL96, mL97, mL98, mL100, mL101, mL102, mL103]; omega)) ?_
  refine k_iconst (pc' := 35) (v := nI 3) dX10_wallOf_34 rfl ?_
  refine k_icmp_eq (tgt := 41) (pc' := 38) dX10_wallOf_35 rfl (fun c_35 => ?_) (fun c_35 => ?_)
  rotate_left
  · refine k_bipush (pc' := 40) (v := -12) dX10_wallOf_38 rfl ?_
    refine p_ireturn dX10_wallOf_40 rfl ?_
    exact Or.inr ⟨h, f, rfl, hh, rfl, hf, Or.inr (Or.inl ⟨c_22, c_35, rfl, rfl⟩)⟩
  refine k_aload_n (pc' := 42) dX10_wallOf_41 rfl ?_
  refine p_get (pc' := 45) clX10 (Nat.le_of_ble_eq_true rfl) fl_RX10_37 dX10_wallOf_42 (by first | assumption | decide | omega) (by first | rfl | assumption) rfl ?_
  refine k_iload_n (pc' := 46) dX10_wallOf_45 rfl ?_
  refine p_ialdN (pc' := 47) dX10_wallOf_46 (by first | assumption | decide | omega) (by first | rfl | assumption) (by first | decide | omega) (by first | omega | (simp only [mL85, mL86, mL87, mL88, mL89, mL90, mL91, mL92, mL93, mL94, mL95, mL96, mL97, mL98, mL100, mL101, mL102, mL103]; omega)) ?_
  refine k_aload_n (pc' := 48) dX10_wallOf_47 rfl ?_
  refine p_get (pc' := 51) clX10 (Nat.le_of_ble_eq_true rfl) fl_RX10_9 dX10_wallOf_48 (by first | assumption | decide | omega) (by first | rfl | assumption) rfl ?_
  refine k_icmp_ge (tgt := 57) (pc' := 54) dX10_wallOf_51 rfl (fun c_51 => ?_) (fun c_51 => ?_)
  rotate_left
  · refine k_bipush (pc' := 56) (v := -5) dX10_wallOf_54 rfl ?_
    refine p_ireturn dX10_wallOf_56 rfl ?_
    exact Or.inr ⟨h, f, rfl, hh, rfl, hf, Or.inr (Or.inr (Or.inl ⟨c_35, c_51, rfl, rfl⟩))⟩
  refine k_iconst (pc' := 58) (v := nI 0) dX10_wallOf_57 rfl ?_
  refine k_istore_n (pc' := 59) dX10_wallOf_58 (Nat.le_of_ble_eq_true rfl) rfl ?_
  generalize hQ : (fun v σ' => (¬ ((0 ≤ (nI h).toInt ∧ (nI h).toInt ≤ 5) ∧ (0 ≤ (nI f).toInt ∧ (nI f).toInt ≤ 5)) ∧ rI (-1) (putM G σ N D T z a tb) v σ') ∨ ∃ h' f', nI h = nI h' ∧ h' < 6 ∧ nI f = nI f' ∧ f' < 6 ∧ ((a 91 f' = 0 ∧ rI (-11) (putM G σ N D T z a tb) v σ') ∨ (¬ a 91 f' = 0 ∧ ¬ a 91 f' = nI 3 ∧ rI (-12) (putM G σ N D T z a tb) v σ') ∨ (a 91 f' = nI 3 ∧ ¬ nI N ≤ a 92 f' ∧ rI (-5) (putM G σ N D T z a tb) v σ') ∨ (a 91 f' = nI 3 ∧ nI N ≤ a 92 f' ∧ ¬ isW N (mLd N f' (a 93) (a 98)) ∧ rI (-5) (putM G σ N D T z (va_up a 98 (mLd N f' (a 93) (a 98))) tb) v σ') ∨ (a 91 f' = nI 3 ∧ nI N ≤ a 92 f' ∧ isW N (mLd N f' (a 93) (a 98)) ∧ rI (mWid N (mLd N f' (a 93) (a 98))) (putM G σ N D T z (mHw N h' (mLd N f' (a 93) (a 98)) (va_up a 98 (mLd N f' (a 93) (a 98)))) tb) v σ'))) = Qf
  have key := loopU (fun p b => OkP G mX10_wallOf 4 Qf 59 [some (.ref (adr G 84)), some (.int (nI h)), some (.int (nI f)), some (.int (nI p))] [] (putM G σ N D T z (va_up a 98 b) tb)) (fun p b => upd b p (a 93 (20 * f + p))) N 0 N (a 98) (by omega) ?_ ?_
  · rw [up_id rfl] at key
    exact key
  · intro p b _ hp ih
    refine k_iload_n (pc' := 60) dX10_wallOf_59 rfl ?_
    refine k_aload_n (pc' := 61) dX10_wallOf_60 rfl ?_
    refine p_get (pc' := 64) clX10 (Nat.le_of_ble_eq_true rfl) fl_RX10_9 dX10_wallOf_61 (by first | assumption | decide | omega) (by first | rfl | assumption) rfl ?_
    refine k_icmp_ge (tgt := 90) (pc' := 67) dX10_wallOf_64 rfl (fun zz_ => absurd zz_ (nI_ge (by omega) (by omega))) (fun _ => ?_)
    refine k_aload_n (pc' := 68) dX10_wallOf_67 rfl ?_
    refine p_get (pc' := 71) clX10 (Nat.le_of_ble_eq_true rfl) fl_RX10_55 dX10_wallOf_68 (by first | assumption | decide | omega) (by first | rfl | assumption) rfl ?_
    refine k_iload_n (pc' := 72) dX10_wallOf_71 rfl ?_
    refine k_aload_n (pc' := 73) dX10_wallOf_72 rfl ?_
    refine p_get (pc' := 76) clX10 (Nat.le_of_ble_eq_true rfl) fl_RX10_40 dX10_wallOf_73 (by first | assumption | decide | omega) (by first | rfl | assumption) rfl ?_
    refine k_bipush (pc' := 78) (v := nI 20) dX10_wallOf_76 rfl ?_
    refine k_iload_n (pc' := 79) dX10_wallOf_78 rfl ?_
    refine k_imul (pc' := 80) dX10_wallOf_79 (by first | exact pk_mul _ _ | rfl) ?_
    refine k_iload_n (pc' := 81) dX10_wallOf_80 rfl ?_
    refine k_iadd (pc' := 82) dX10_wallOf_81 (by first | exact nI_add _ _ | rfl) ?_
    refine p_ialdN (pc' := 83) dX10_wallOf_82 (by first | assumption | decide | omega) (by first | rfl | assumption) (by first | decide | omega) (by first | omega | (simp only [mL85, mL86, mL87, mL88, mL89, mL90, mL91, mL92, mL93, mL94, mL95, mL96, mL97, mL98, mL100, mL101, mL102, mL103]; omega)) ?_
    refine p_iastN (pc' := 84) (σ1 := putM G σ N D T z (va_up a 98 (upd b p (a 93 (20 * f + p)))) tb) dX10_wallOf_83 (by first | assumption | decide | omega) (by first | rfl | assumption) (by first | decide | omega) (by first | omega | (simp only [mL85, mL86, mL87, mL88, mL89, mL90, mL91, mL92, mL93, mL94, mL95, mL96, mL97, mL98, mL100, mL101, mL102, mL103]; omega)) (by exact (by rw [pMa (by decide), up_up]; rfl)) ?_
    refine k_iinc (pc' := 87) (v := nI (p + 1)) dX10_wallOf_84 rfl (nI_inc _) (Nat.le_of_ble_eq_true rfl) rfl ?_
    refine k_goto (tgt := 59) dX10_wallOf_87 rfl ?_
    exact ih
  · show OkP G mX10_wallOf 4 Qf 59 [some (.ref (adr G 84)), some (.int (nI h)), some (.int (nI f)), some (.int (nI N))] [] (putM G σ N D T z (va_up a 98 (mLd N f (a 93) (a 98))) tb)
    by_cases hw : isW N (mLd N f (a 93) (a 98))
    · refine k_iload_n (pc' := 60) dX10_wallOf_59 rfl ?_
      refine k_aload_n (pc' := 61) dX10_wallOf_60 rfl ?_
      refine p_get (pc' := 64) clX10 (Nat.le_of_ble_eq_true rfl) fl_RX10_9 dX10_wallOf_61 (by first | assumption | decide | omega) (by first | rfl | assumption) rfl ?_
      refine k_icmp_ge (tgt := 90) (pc' := 67) dX10_wallOf_64 rfl (fun _ => ?_) (fun zz_ => absurd (nI_le (by omega) (by omega)) zz_)
      refine k_aload_n (pc' := 91) dX10_wallOf_90 rfl ?_
      refine k_aload_n (pc' := 92) dX10_wallOf_91 rfl ?_
      refine p_get (pc' := 95) clX10 (Nat.le_of_ble_eq_true rfl) fl_RX10_9 dX10_wallOf_92 (by first | assumption | decide | omega) (by first | rfl | assumption) rfl ?_
      refine p_vI (ν := mX10_isWall) (pc' := 98) dX10_wallOf_95 ml_RX10_158 mo_X10_isWall mv_X10_isWall clX10 (Nat.le_of_ble_eq_true rfl) rfl rfl (Nat.le_of_ble_eq_true rfl) (by first | assumption | decide | omega) (by first | rfl | assumption) (by decide) (c_isWall hN6) ?_
      refine k_if_eq (tgt := 109) (pc' := 101) dX10_wallOf_98 rfl (fun zz_ => absurd zz_ (by rw [bI_eq]; exact fun q => q hw)) (fun _ => ?_)
      refine k_aload_n (pc' := 102) dX10_wallOf_101 rfl ?_
      refine k_iload_n (pc' := 103) dX10_wallOf_102 rfl ?_
      refine p_vI (ν := mX10_holdsWall) (pc' := 106) dX10_wallOf_103 ml_RX10_179 mo_X10_holdsWall mv_X10_holdsWall clX10 (Nat.le_of_ble_eq_true rfl) rfl rfl (Nat.le_of_ble_eq_true rfl) (by first | assumption | decide | omega) (by first | rfl | assumption) (by decide) (c_holdsWall hN hN6 hh) ?_
      refine k_goto (tgt := 111) dX10_wallOf_106 rfl ?_
      refine p_ireturn dX10_wallOf_111 rfl ?_
      rw [← hQ]
      exact Or.inr ⟨h, f, rfl, hh, rfl, hf, Or.inr (Or.inr (Or.inr (Or.inr ⟨c_35, c_51, hw, rfl, rfl⟩)))⟩
    · refine k_iload_n (pc' := 60) dX10_wallOf_59 rfl ?_
      refine k_aload_n (pc' := 61) dX10_wallOf_60 rfl ?_
      refine p_get (pc' := 64) clX10 (Nat.le_of_ble_eq_true rfl) fl_RX10_9 dX10_wallOf_61 (by first | assumption | decide | omega) (by first | rfl | assumption) rfl ?_
      refine k_icmp_ge (tgt := 90) (pc' := 67) dX10_wallOf_64 rfl (fun _ => ?_) (fun zz_ => absurd (nI_le (by omega) (by omega)) zz_)
      refine k_aload_n (pc' := 91) dX10_wallOf_90 rfl ?_
      refine k_aload_n (pc' := 92) dX10_wallOf_91 rfl ?_
      refine p_get (pc' := 95) clX10 (Nat.le_of_ble_eq_true rfl) fl_RX10_9 dX10_wallOf_92 (by first | assumption | decide | omega) (by first | rfl | assumption) rfl ?_
      refine p_vI (ν := mX10_isWall) (pc' := 98) dX10_wallOf_95 ml_RX10_158 mo_X10_isWall mv_X10_isWall clX10 (Nat.le_of_ble_eq_true rfl) rfl rfl (Nat.le_of_ble_eq_true rfl) (by first | assumption | decide | omega) (by first | rfl | assumption) (by decide) (c_isWall hN6) ?_
      refine k_if_eq (tgt := 109) (pc' := 101) dX10_wallOf_98 rfl (fun _ => ?_) (fun zz_ => absurd (by rw [bI_eq]; exact hw) zz_)
      refine k_bipush (pc' := 111) (v := -5) dX10_wallOf_109 rfl ?_
      refine p_ireturn dX10_wallOf_111 rfl ?_
      rw [← hQ]
      exact Or.inr ⟨h, f, rfl, hh, rfl, hf, Or.inr (Or.inr (Or.inr (Or.inl ⟨c_35, c_51, hw, rfl, rfl⟩)))⟩
theorem c_bar (hN : 2 ≤ N) (hN6 : N ≤ 6) {h : Nat} (hh : h < 6) : ConP G mX10_bar 1 [.ref (adr G 84), .int (nI h)] (putM G σ N D T z a tb) (rI (mBar N h a) (putM G σ N D T z (if mBar N h a = 0 then va_up a 98 (mLd N h (a 93) (a 98)) else a) tb)) := by
  refine ConP.of rfl (Nat.le_of_ble_eq_true rfl) ?_
  by_cases h0 : a 91 h = 0
  · have e : mBar N h a = -11 := if_pos h0
    rw [e, if_neg (by decide)]
    refine k_aload_n (pc' := 1) dX10_bar_0 rfl ?_
    refine p_get (pc' := 4) clX10 (Nat.le_of_ble_eq_true rfl) fl_RX10_34 dX10_bar_1 (by first | assumption | decide | omega) (by first | rfl | assumption) rfl ?_
    refine k_iload_n (pc' := 5) dX10_bar_4 rfl ?_
    refine p_ialdN (pc' := 6) dX10_bar_5 (by first | assumption | decide | omega) (by first | rfl | assumption) (by first | decide | omega) (by first | omega | (simp only [mL85, mL86, mL87, mL88, mL89, mL90, mL91, mL92, mL93, mL94, mL95, mL96, mL97, mL98, mL100, mL101, mL102, mL103]; omega)) ?_
    refine k_if_ne (tgt := 12) (pc' := 9) dX10_bar_6 rfl (fun zz_ => absurd h0 zz_) (fun _ => ?_)
    refine k_bipush (pc' := 11) (v := -11) dX10_bar_9 rfl ?_
    refine p_ireturn dX10_bar_11 rfl ?_
    exact ⟨rfl, rfl⟩
  by_cases h2 : a 91 h = nI 2
  · by_cases h3 : a 92 h = nI N
    · have e : mBar N h a = 0 := by unfold mBar; rw [if_neg h0, if_pos h2, if_pos h3]
      rw [e, if_pos rfl]
      refine k_aload_n (pc' := 1) dX10_bar_0 rfl ?_
      refine p_get (pc' := 4) clX10 (Nat.le_of_ble_eq_true rfl) fl_RX10_34 dX10_bar_1 (by first | assumption | decide | omega) (by first | rfl | assumption) rfl ?_
      refine k_iload_n (pc' := 5) dX10_bar_4 rfl ?_
      refine p_ialdN (pc' := 6) dX10_bar_5 (by first | assumption | decide | omega) (by first | rfl | assumption) (by first | decide | omega) (by first | omega | (simp only [mL85, mL86, mL87, mL88, mL89, mL90, mL91, mL92, mL93, mL94, mL95, mL96, mL97, mL98, mL100, mL101, mL102, mL103]; omega)) ?_
      refine k_if_ne (tgt := 12) (pc' := 9) dX10_bar_6 rfl (fun _ => ?_) (fun zz_ => absurd zz_ h0)
      refine k_aload_n (pc' := 13) dX10_bar_12 rfl ?_
      refine p_get (pc' := 16) clX10 (Nat.le_of_ble_eq_true rfl) fl_RX10_34 dX10_bar_13 (by first | assumption | decide | omega) (by first | rfl | assumption) rfl ?_
      refine k_iload_n (pc' := 17) dX10_bar_16 rfl ?_
      refine p_ialdN (pc' := 18) dX10_bar_17 (by first | assumption | decide | omega) (by first | rfl | assumption) (by first | decide | omega) (by first | omega | (simp only [mL85, mL86, mL87, mL88, mL89, mL90, mL91, mL92, mL93, mL94, mL95, mL96, mL97, mL98, mL100, mL101, mL102, mL103]; omega)) ?_
      refine k_iconst (pc' := 19) (v := nI 2) dX10_bar_18 rfl ?_
      refine k_icmp_eq (tgt := 25) (pc' := 22) dX10_bar_19 rfl (fun _ => ?_) (fun zz_ => absurd h2 zz_)
      refine k_aload_n (pc' := 26) dX10_bar_25 rfl ?_
      refine p_get (pc' := 29) clX10 (Nat.le_of_ble_eq_true rfl) fl_RX10_37 dX10_bar_26 (by first | assumption | decide | omega) (by first | rfl | assumption) rfl ?_
      refine k_iload_n (pc' := 30) dX10_bar_29 rfl ?_
      refine p_ialdN (pc' := 31) dX10_bar_30 (by first | assumption | decide | omega) (by first | rfl | assumption) (by first | decide | omega) (by first | omega | (simp only [mL85, mL86, mL87, mL88, mL89, mL90, mL91, mL92, mL93, mL94, mL95, mL96, mL97, mL98, mL100, mL101, mL102, mL103]; omega)) ?_
      refine k_aload_n (pc' := 32) dX10_bar_31 rfl ?_
      refine p_get (pc' := 35) clX10 (Nat.le_of_ble_eq_true rfl) fl_RX10_9 dX10_bar_32 (by first | assumption | decide | omega) (by first | rfl | assumption) rfl ?_
      refine k_icmp_eq (tgt := 41) (pc' := 38) dX10_bar_35 rfl (fun _ => ?_) (fun zz_ => absurd h3 zz_)
      refine k_iconst (pc' := 42) (v := nI 0) dX10_bar_41 rfl ?_
      refine k_istore_n (pc' := 43) dX10_bar_42 (Nat.le_of_ble_eq_true rfl) rfl ?_
      have key := loopU (fun p b => OkP G mX10_bar 1 (rI 0 (putM G σ N D T z (va_up a 98 (mLd N h (a 93) (a 98))) tb)) 43 [some (.ref (adr G 84)), some (.int (nI h)), some (.int (nI p))] [] (putM G σ N D T z (va_up a 98 b) tb)) (fun p b => upd b p (a 93 (20 * h + p))) N 0 N (a 98) (by omega) ?_ ?_
      · rw [up_id rfl] at key
        exact key
      · intro p b _ hp ih
        refine k_iload_n (pc' := 44) dX10_bar_43 rfl ?_
        refine k_aload_n (pc' := 45) dX10_bar_44 rfl ?_
        refine p_get (pc' := 48) clX10 (Nat.le_of_ble_eq_true rfl) fl_RX10_9 dX10_bar_45 (by first | assumption | decide | omega) (by first | rfl | assumption) rfl ?_
        refine k_icmp_ge (tgt := 74) (pc' := 51) dX10_bar_48 rfl (fun zz_ => absurd zz_ (nI_ge (by omega) (by omega))) (fun _ => ?_)
        refine k_aload_n (pc' := 52) dX10_bar_51 rfl ?_
        refine p_get (pc' := 55) clX10 (Nat.le_of_ble_eq_true rfl) fl_RX10_55 dX10_bar_52 (by first | assumption | decide | omega) (by first | rfl | assumption) rfl ?_
        refine k_iload_n (pc' := 56) dX10_bar_55 rfl ?_
        refine k_aload_n (pc' := 57) dX10_bar_56 rfl ?_
        refine p_get (pc' := 60) clX10 (Nat.le_of_ble_eq_true rfl) fl_RX10_40 dX10_bar_57 (by first | assumption | decide | omega) (by first | rfl | assumption) rfl ?_
        refine k_bipush (pc' := 62) (v := nI 20) dX10_bar_60 rfl ?_
        refine k_iload_n (pc' := 63) dX10_bar_62 rfl ?_
        refine k_imul (pc' := 64) dX10_bar_63 (by first | exact pk_mul _ _ | rfl) ?_
        refine k_iload_n (pc' := 65) dX10_bar_64 rfl ?_
        refine k_iadd (pc' := 66) dX10_bar_65 (by first | exact nI_add _ _ | rfl) ?_
        refine p_ialdN (pc' := 67) dX10_bar_66 (by first | assumption | decide | omega) (by first | rfl | assumption) (by first | decide | omega) (by first | omega | (simp only [mL85, mL86, mL87, mL88, mL89, mL90, mL91, mL92, mL93, mL94, mL95, mL96, mL97, mL98, mL100, mL101, mL102, mL103]; omega)) ?_
        refine p_iastN (pc' := 68) (σ1 := putM G σ N D T z (va_up a 98 (upd b p (a 93 (20 * h + p)))) tb) dX10_bar_67 (by first | assumption | decide | omega) (by first | rfl | assumption) (by first | decide | omega) (by first | omega | (simp only [mL85, mL86, mL87, mL88, mL89, mL90, mL91, mL92, mL93, mL94, mL95, mL96, mL97, mL98, mL100, mL101, mL102, mL103]; omega)) (by exact (by rw [pMa (by decide), up_up]; rfl)) ?_
        refine k_iinc (pc' := 71) (v := nI (p + 1)) dX10_bar_68 rfl (nI_inc _) (Nat.le_of_ble_eq_true rfl) rfl ?_
        refine k_goto (tgt := 43) dX10_bar_71 rfl ?_
        exact ih
      · refine k_iload_n (pc' := 44) dX10_bar_43 rfl ?_
        refine k_aload_n (pc' := 45) dX10_bar_44 rfl ?_
        refine p_get (pc' := 48) clX10 (Nat.le_of_ble_eq_true rfl) fl_RX10_9 dX10_bar_45 (by first | assumption | decide | omega) (by first | rfl | assumption) rfl ?_
        refine k_icmp_ge (tgt := 74) (pc' := 51) dX10_bar_48 rfl (fun _ => ?_) (fun zz_ => absurd (nI_le (by omega) (by omega)) zz_)
        refine k_iconst (pc' := 75) (v := nI 0) dX10_bar_74 rfl ?_
        refine p_ireturn dX10_bar_75 rfl ?_
        exact ⟨rfl, rfl⟩
    · have e : mBar N h a = -5 := by unfold mBar; rw [if_neg h0, if_pos h2, if_neg h3]
      rw [e, if_neg (by decide)]
      refine k_aload_n (pc' := 1) dX10_bar_0 rfl ?_
      refine p_get (pc' := 4) clX10 (Nat.le_of_ble_eq_true rfl) fl_RX10_34 dX10_bar_1 (by first | assumption | decide | omega) (by first | rfl | assumption) rfl ?_
      refine k_iload_n (pc' := 5) dX10_bar_4 rfl ?_
      refine p_ialdN (pc' := 6) dX10_bar_5 (by first | assumption | decide | omega) (by first | rfl | assumption) (by first | decide | omega) (by first | omega | (simp only [mL85, mL86, mL87, mL88, mL89, mL90, mL91, mL92, mL93, mL94, mL95, mL96, mL97, mL98, mL100, mL101, mL102, mL103]; omega)) ?_
      refine k_if_ne (tgt := 12) (pc' := 9) dX10_bar_6 rfl (fun _ => ?_) (fun zz_ => absurd zz_ h0)
      refine k_aload_n (pc' := 13) dX10_bar_12 rfl ?_
      refine p_get (pc' := 16) clX10 (Nat.le_of_ble_eq_true rfl) fl_RX10_34 dX10_bar_13 (by first | assumption | decide | omega) (by first | rfl | assumption) rfl ?_
      refine k_iload_n (pc' := 17) dX10_bar_16 rfl ?_
      refine p_ialdN (pc' := 18) dX10_bar_17 (by first | assumption | decide | omega) (by first | rfl | assumption) (by first | decide | omega) (by first | omega | (simp only [mL85, mL86, mL87, mL88, mL89, mL90, mL91, mL92, mL93, mL94, mL95, mL96, mL97, mL98, mL100, mL101, mL102, mL103]; omega)) ?_
      refine k_iconst (pc' := 19) (v := nI 2) dX10_bar_18 rfl ?_
      refine k_icmp_eq (tgt := 25) (pc' := 22) dX10_bar_19 rfl (fun _ => ?_) (fun zz_ => absurd h2 zz_)
      refine k_aload_n (pc' := 26) dX10_bar_25 rfl ?_
      refine p_get (pc' := 29) clX10 (Nat.le_of_ble_eq_true rfl) fl_RX10_37 dX10_bar_26 (by first | assumption | decide | omega) (by first | rfl | assumption) rfl ?_
      refine k_iload_n (pc' := 30) dX10_bar_29 rfl ?_
      refine p_ialdN (pc' := 31) dX10_bar_30 (by first | assumption | decide | omega) (by first | rfl | assumption) (by first | decide | omega) (by first | omega | (simp only [mL85, mL86, mL87, mL88, mL89, mL90, mL91, mL92, mL93, mL94, mL95, mL96, mL97, mL98, mL100, mL101, mL102, mL103]; omega)) ?_
      refine k_aload_n (pc' := 32) dX10_bar_31 rfl ?_
      refine p_get (pc' := 35) clX10 (Nat.le_of_ble_eq_true rfl) fl_RX10_9 dX10_bar_32 (by first | assumption | decide | omega) (by first | rfl | assumption) rfl ?_
      refine k_icmp_eq (tgt := 41) (pc' := 38) dX10_bar_35 rfl (fun zz_ => absurd zz_ h3) (fun _ => ?_)
      refine k_bipush (pc' := 40) (v := -5) dX10_bar_38 rfl ?_
      refine p_ireturn dX10_bar_40 rfl ?_
      exact ⟨rfl, rfl⟩
  · have e : mBar N h a = -12 := by unfold mBar; rw [if_neg h0, if_neg h2]
    rw [e, if_neg (by decide)]
    refine k_aload_n (pc' := 1) dX10_bar_0 rfl ?_
    refine p_get (pc' := 4) clX10 (Nat.le_of_ble_eq_true rfl) fl_RX10_34 dX10_bar_1 (by first | assumption | decide | omega) (by first | rfl | assumption) rfl ?_
    refine k_iload_n (pc' := 5) dX10_bar_4 rfl ?_
    refine p_ialdN (pc' := 6) dX10_bar_5 (by first | assumption | decide | omega) (by first | rfl | assumption) (by first | decide | omega) (by first | omega | (simp only [mL85, mL86, mL87, mL88, mL89, mL90, mL91, mL92, mL93, mL94, mL95, mL96, mL97, mL98, mL100, mL101, mL102, mL103]; omega)) ?_
    refine k_if_ne (tgt := 12) (pc' := 9) dX10_bar_6 rfl (fun _ => ?_) (fun zz_ => absurd zz_ h0)
    refine k_aload_n (pc' := 13) dX10_bar_12 rfl ?_
    refine p_get (pc' := 16) clX10 (Nat.le_of_ble_eq_true rfl) fl_RX10_34 dX10_bar_13 (by first | assumption | decide | omega) (by first | rfl | assumption) rfl ?_
    refine k_iload_n (pc' := 17) dX10_bar_16 rfl ?_
    refine p_ialdN (pc' := 18) dX10_bar_17 (by first | assumption | decide | omega) (by first | rfl | assumption) (by first | decide | omega) (by first | omega | (simp only [mL85, mL86, mL87, mL88, mL89, mL90, mL91, mL92, mL93, mL94, mL95, mL96, mL97, mL98, mL100, mL101, mL102, mL103]; omega)) ?_
    refine k_iconst (pc' := 19) (v := nI 2) dX10_bar_18 rfl ?_
    refine k_icmp_eq (tgt := 25) (pc' := 22) dX10_bar_19 rfl (fun zz_ => absurd zz_ h2) (fun _ => ?_)
    refine k_bipush (pc' := 24) (v := -12) dX10_bar_22 rfl ?_
    refine p_ireturn dX10_bar_24 rfl ?_
    exact ⟨rfl, rfl⟩
theorem m_value (hN : 2 ≤ N) (hN6 : N ≤ 6) {x : Int32} : ConP G mX10_value 3 [.ref (adr G 84), .int x] (putM G σ N D T z a tb) (fun v σ' => (¬ (0 ≤ x.toInt ∧ x.toInt ≤ 5) ∧ rL (-9223372036854775808) (putM G σ N D T z a tb) v σ') ∨ ∃ h, x = nI h ∧ h < 6 ∧ ((¬ mBar N h a = 0 ∧ rL (-9223372036854775808) (putM G σ N D T z a tb) v σ') ∨ (mBar N h a = 0 ∧ rL (mVa N (mLd N h (a 93) (a 98)) (a 85)).toInt64 (putM G σ N D T z (va_up a 98 (mLd N h (a 93) (a 98))) tb) v σ'))) := by
  refine ConP.of rfl (Nat.le_of_ble_eq_true rfl) ?_
  refine k_iload_n (pc' := 1) dX10_value_0 rfl ?_
  refine p_sI (ν := mX10_isHolder) (pc' := 4) dX10_value_1 ml_RX10_176 mo_X10_isHolder ms_X10_isHolder (Nat.le_of_ble_eq_true rfl) rfl rfl (Nat.le_of_ble_eq_true rfl) (by decide) (c_mIsHolder) ?_
  refine k_if_eq (tgt := 23) (pc' := 7) dX10_value_4 rfl (fun c_4 => ?_) (fun c_4 => ?_)
  · rw [bI_eq] at c_4
    refine k_ldc2 (pc' := 26)  dX10_value_23 cl_RX10_185 ?_
    refine p_lreturn dX10_value_26 rfl ?_
    exact Or.inl ⟨c_4, rfl, rfl⟩
  rw [bI_ne] at c_4
  obtain ⟨h, hh, hx⟩ := nI_in0 (x := x) (n := 6) (by omega) (by omega) (by decide)
  subst hx
  by_cases hb : mBar N h a = 0
  · refine k_aload_n (pc' := 8) dX10_value_7 rfl ?_
    refine k_iload_n (pc' := 9) dX10_value_8 rfl ?_
    refine p_vI (ν := mX10_bar) (pc' := 12) dX10_value_9 ml_RX10_182 mo_X10_bar mv_X10_bar clX10 (Nat.le_of_ble_eq_true rfl) rfl rfl (Nat.le_of_ble_eq_true rfl) (by first | assumption | decide | omega) (by first | rfl | assumption) (by decide) (c_bar hN hN6 hh) ?_
    rw [if_pos hb]
    refine k_if_ne (tgt := 23) (pc' := 15) dX10_value_12 rfl (fun zz_ => absurd hb zz_) (fun _ => ?_)
    refine k_aload_n (pc' := 16) dX10_value_15 rfl ?_
    refine p_vI (ν := mX10_valueNow) (pc' := 19) dX10_value_16 ml_RX10_161 mo_X10_valueNow mv_X10_valueNow clX10 (Nat.le_of_ble_eq_true rfl) rfl rfl (Nat.le_of_ble_eq_true rfl) (by first | assumption | decide | omega) (by first | rfl | assumption) (by decide) (c_valueNow hN6) ?_
    refine k_i2l (pc' := 20) dX10_value_19 rfl ?_
    refine k_goto (tgt := 26) dX10_value_20 rfl ?_
    refine p_lreturn dX10_value_26 rfl ?_
    exact Or.inr ⟨h, rfl, hh, Or.inr ⟨hb, rfl, rfl⟩⟩
  · refine k_aload_n (pc' := 8) dX10_value_7 rfl ?_
    refine k_iload_n (pc' := 9) dX10_value_8 rfl ?_
    refine p_vI (ν := mX10_bar) (pc' := 12) dX10_value_9 ml_RX10_182 mo_X10_bar mv_X10_bar clX10 (Nat.le_of_ble_eq_true rfl) rfl rfl (Nat.le_of_ble_eq_true rfl) (by first | assumption | decide | omega) (by first | rfl | assumption) (by decide) (c_bar hN hN6 hh) ?_
    rw [if_neg hb]
    refine k_if_ne (tgt := 23) (pc' := 15) dX10_value_12 rfl (fun _ => ?_) (fun zz_ => absurd zz_ hb)
    refine k_ldc2 (pc' := 26)  dX10_value_23 cl_RX10_185 ?_
    refine p_lreturn dX10_value_26 rfl ?_
    exact Or.inr ⟨h, rfl, hh, Or.inl ⟨hb, rfl, rfl⟩⟩
theorem c_mIsRoot (hN6 : N ≤ 6) {x : Int32} : ConP G mX10_isRoot 3 [.ref (adr G 84), .int x] (putM G σ N D T z a tb) (rI (bI (mRt N x (a 98) = 0)) (putM G σ N D T z a tb)) := by
  generalize hR : mRt N x (a 98) = R
  refine ConP.of rfl (Nat.le_of_ble_eq_true rfl) ?_
  refine k_iconst (pc' := 1) (v := nI 0) dX10_isRoot_0 rfl ?_
  refine k_istore_n (pc' := 2) dX10_isRoot_1 (Nat.le_of_ble_eq_true rfl) rfl ?_
  refine k_iconst (pc' := 3) (v := nI 0) dX10_isRoot_2 rfl ?_
  refine k_istore_n (pc' := 4) dX10_isRoot_3 (Nat.le_of_ble_eq_true rfl) rfl ?_
  refine loopU (fun i s => ∀ y, OkP G mX10_isRoot 3 (rI (bI (R = 0)) (putM G σ N D T z a tb)) 4 [some (.ref (adr G 84)), some (.int x), some (.int s), some (.int (nI i)), y] [] (putM G σ N D T z a tb)) (mRt2 N x (a 98)) N 0 N (nI 0) (by omega) ?_ ?_ none
  · intro i s _ hi ih y
    refine k_iload_n (pc' := 5) dX10_isRoot_4 rfl ?_
    refine k_aload_n (pc' := 6) dX10_isRoot_5 rfl ?_
    refine p_get (pc' := 9) clX10 (Nat.le_of_ble_eq_true rfl) fl_RX10_9 dX10_isRoot_6 (by first | assumption | decide | omega) (by first | rfl | assumption) rfl ?_
    refine k_icmp_ge (tgt := 69) (pc' := 12) dX10_isRoot_9 rfl (fun zz_ => absurd zz_ (nI_ge (by omega) (by omega))) (fun _ => ?_)
    refine k_iload_n (pc' := 13) dX10_isRoot_12 rfl ?_
    refine k_iconst (pc' := 14) (v := nI 1) dX10_isRoot_13 rfl ?_
    refine k_iadd (pc' := 15) dX10_isRoot_14 (by first | exact nI_add _ _ | rfl) ?_
    refine k_istore (pc' := 17) dX10_isRoot_15 (Nat.le_of_ble_eq_true rfl) rfl ?_
    refine loopU (fun j s => OkP G mX10_isRoot 3 (rI (bI (R = 0)) (putM G σ N D T z a tb)) 17 [some (.ref (adr G 84)), some (.int x), some (.int s), some (.int (nI i)), some (.int (nI j))] [] (putM G σ N D T z a tb)) (mRt1 x (a 98) i) N (i + 1) (N - (i + 1)) s (by omega) ?_ ?_
    · intro j s hij hj ih2
      unfold mRt1 at ih2
      by_cases hs : sepP x i j
      · rw [if_pos hs] at ih2
        refine k_iload (pc' := 19) dX10_isRoot_17 rfl ?_
        refine k_aload_n (pc' := 20) dX10_isRoot_19 rfl ?_
        refine p_get (pc' := 23) clX10 (Nat.le_of_ble_eq_true rfl) fl_RX10_9 dX10_isRoot_20 (by first | assumption | decide | omega) (by first | rfl | assumption) rfl ?_
        refine k_icmp_ge (tgt := 63) (pc' := 26) dX10_isRoot_23 rfl (fun zz_ => absurd zz_ (nI_ge (by omega) (by omega))) (fun _ => ?_)
        refine k_iload_n (pc' := 27) dX10_isRoot_26 rfl ?_
        refine k_iload_n (pc' := 28) dX10_isRoot_27 rfl ?_
        refine k_iload_n (pc' := 29) dX10_isRoot_28 rfl ?_
        refine k_iload (pc' := 31) dX10_isRoot_29 rfl ?_
        refine p_sI (ν := mX10_separates) (pc' := 34) dX10_isRoot_31 ml_RX10_129 mo_X10_separates ms_X10_separates (Nat.le_of_ble_eq_true rfl) rfl rfl (Nat.le_of_ble_eq_true rfl) (by decide) (c_separates (by omega) (by omega)) ?_
        refine k_if_eq (tgt := 54) (pc' := 37) dX10_isRoot_34 rfl (fun zz_ => absurd zz_ (by rw [bI_eq]; exact fun q => q hs)) (fun _ => ?_)
        refine k_aload_n (pc' := 38) dX10_isRoot_37 rfl ?_
        refine p_get (pc' := 41) clX10 (Nat.le_of_ble_eq_true rfl) fl_RX10_55 dX10_isRoot_38 (by first | assumption | decide | omega) (by first | rfl | assumption) rfl ?_
        refine k_iload_n (pc' := 42) dX10_isRoot_41 rfl ?_
        refine p_ialdN (pc' := 43) dX10_isRoot_42 (by first | assumption | decide | omega) (by first | rfl | assumption) (by first | decide | omega) (by first | omega | (simp only [mL85, mL86, mL87, mL88, mL89, mL90, mL91, mL92, mL93, mL94, mL95, mL96, mL97, mL98, mL100, mL101, mL102, mL103]; omega)) ?_
        refine k_aload_n (pc' := 44) dX10_isRoot_43 rfl ?_
        refine p_get (pc' := 47) clX10 (Nat.le_of_ble_eq_true rfl) fl_RX10_55 dX10_isRoot_44 (by first | assumption | decide | omega) (by first | rfl | assumption) rfl ?_
        refine k_iload (pc' := 49) dX10_isRoot_47 rfl ?_
        refine p_ialdN (pc' := 50) dX10_isRoot_49 (by first | assumption | decide | omega) (by first | rfl | assumption) (by first | decide | omega) (by first | omega | (simp only [mL85, mL86, mL87, mL88, mL89, mL90, mL91, mL92, mL93, mL94, mL95, mL96, mL97, mL98, mL100, mL101, mL102, mL103]; omega)) ?_
        refine k_imul (pc' := 51) (v := a 98 i * a 98 j) dX10_isRoot_50 rfl ?_
        refine k_goto (tgt := 55) dX10_isRoot_51 rfl ?_
        refine k_iadd (pc' := 56) (v := s + a 98 i * a 98 j) dX10_isRoot_55 rfl ?_
        refine k_istore_n (pc' := 57) dX10_isRoot_56 (Nat.le_of_ble_eq_true rfl) rfl ?_
        refine k_iinc (pc' := 60) (v := nI (j + 1)) dX10_isRoot_57 rfl (nI_inc _) (Nat.le_of_ble_eq_true rfl) rfl ?_
        refine k_goto (tgt := 17) dX10_isRoot_60 rfl ?_
        exact ih2
      · rw [if_neg hs] at ih2
        refine k_iload (pc' := 19) dX10_isRoot_17 rfl ?_
        refine k_aload_n (pc' := 20) dX10_isRoot_19 rfl ?_
        refine p_get (pc' := 23) clX10 (Nat.le_of_ble_eq_true rfl) fl_RX10_9 dX10_isRoot_20 (by first | assumption | decide | omega) (by first | rfl | assumption) rfl ?_
        refine k_icmp_ge (tgt := 63) (pc' := 26) dX10_isRoot_23 rfl (fun zz_ => absurd zz_ (nI_ge (by omega) (by omega))) (fun _ => ?_)
        refine k_iload_n (pc' := 27) dX10_isRoot_26 rfl ?_
        refine k_iload_n (pc' := 28) dX10_isRoot_27 rfl ?_
        refine k_iload_n (pc' := 29) dX10_isRoot_28 rfl ?_
        refine k_iload (pc' := 31) dX10_isRoot_29 rfl ?_
        refine p_sI (ν := mX10_separates) (pc' := 34) dX10_isRoot_31 ml_RX10_129 mo_X10_separates ms_X10_separates (Nat.le_of_ble_eq_true rfl) rfl rfl (Nat.le_of_ble_eq_true rfl) (by decide) (c_separates (by omega) (by omega)) ?_
        refine k_if_eq (tgt := 54) (pc' := 37) dX10_isRoot_34 rfl (fun _ => ?_) (fun zz_ => absurd (by rw [bI_eq]; exact hs) zz_)
        refine k_iconst (pc' := 55) (v := nI 0) dX10_isRoot_54 rfl ?_
        refine k_iadd (pc' := 56) (v := s + nI 0) dX10_isRoot_55 rfl ?_
        refine k_istore_n (pc' := 57) dX10_isRoot_56 (Nat.le_of_ble_eq_true rfl) rfl ?_
        refine k_iinc (pc' := 60) (v := nI (j + 1)) dX10_isRoot_57 rfl (nI_inc _) (Nat.le_of_ble_eq_true rfl) rfl ?_
        refine k_goto (tgt := 17) dX10_isRoot_60 rfl ?_
        exact ih2
    · refine k_iload (pc' := 19) dX10_isRoot_17 rfl ?_
      refine k_aload_n (pc' := 20) dX10_isRoot_19 rfl ?_
      refine p_get (pc' := 23) clX10 (Nat.le_of_ble_eq_true rfl) fl_RX10_9 dX10_isRoot_20 (by first | assumption | decide | omega) (by first | rfl | assumption) rfl ?_
      refine k_icmp_ge (tgt := 63) (pc' := 26) dX10_isRoot_23 rfl (fun _ => ?_) (fun zz_ => absurd (nI_le (by omega) (by omega)) zz_)
      refine k_iinc (pc' := 66) (v := nI (i + 1)) dX10_isRoot_63 rfl (nI_inc _) (Nat.le_of_ble_eq_true rfl) rfl ?_
      refine k_goto (tgt := 4) dX10_isRoot_66 rfl ?_
      exact ih _
  · intro y
    rw [show upn N 0 (mRt2 N x (a 98)) (nI 0) = R from hR]
    by_cases h0 : R = 0
    · refine k_iload_n (pc' := 5) dX10_isRoot_4 rfl ?_
      refine k_aload_n (pc' := 6) dX10_isRoot_5 rfl ?_
      refine p_get (pc' := 9) clX10 (Nat.le_of_ble_eq_true rfl) fl_RX10_9 dX10_isRoot_6 (by first | assumption | decide | omega) (by first | rfl | assumption) rfl ?_
      refine k_icmp_ge (tgt := 69) (pc' := 12) dX10_isRoot_9 rfl (fun _ => ?_) (fun zz_ => absurd (nI_le (by omega) (by omega)) zz_)
      refine k_iload_n (pc' := 70) dX10_isRoot_69 rfl ?_
      refine k_if_ne (tgt := 77) (pc' := 73) dX10_isRoot_70 rfl (fun zz_ => absurd h0 zz_) (fun _ => ?_)
      refine k_iconst (pc' := 74) (v := nI 1) dX10_isRoot_73 rfl ?_
      refine k_goto (tgt := 78) dX10_isRoot_74 rfl ?_
      refine p_zreturn dX10_isRoot_78 rfl (by first | exact Or.inl rfl | exact Or.inr rfl) ?_
      exact ⟨by rw [bI_t h0]; rfl, rfl⟩
    · refine k_iload_n (pc' := 5) dX10_isRoot_4 rfl ?_
      refine k_aload_n (pc' := 6) dX10_isRoot_5 rfl ?_
      refine p_get (pc' := 9) clX10 (Nat.le_of_ble_eq_true rfl) fl_RX10_9 dX10_isRoot_6 (by first | assumption | decide | omega) (by first | rfl | assumption) rfl ?_
      refine k_icmp_ge (tgt := 69) (pc' := 12) dX10_isRoot_9 rfl (fun _ => ?_) (fun zz_ => absurd (nI_le (by omega) (by omega)) zz_)
      refine k_iload_n (pc' := 70) dX10_isRoot_69 rfl ?_
      refine k_if_ne (tgt := 77) (pc' := 73) dX10_isRoot_70 rfl (fun _ => ?_) (fun zz_ => absurd zz_ h0)
      refine k_iconst (pc' := 78) (v := nI 0) dX10_isRoot_77 rfl ?_
      refine p_zreturn dX10_isRoot_78 rfl (by first | exact Or.inl rfl | exact Or.inr rfl) ?_
      exact ⟨by rw [bI_f h0]; rfl, rfl⟩
theorem m_root (hN : 2 ≤ N) (hN6 : N ≤ 6) {x y : Int32} : ConP G mX10_root 4 [.ref (adr G 84), .int x, .int y] (putM G σ N D T z a tb) (fun v σ' => (¬ ((0 ≤ x.toInt ∧ x.toInt ≤ 5) ∧ 0 ≤ y.toInt) ∧ rI (-1) (putM G σ N D T z a tb) v σ') ∨ ∃ h, x = nI h ∧ h < 6 ∧ 0 ≤ y.toInt ∧ ((¬ mBar N h a = 0 ∧ rI (mBar N h a) (putM G σ N D T z a tb) v σ') ∨ (mBar N h a = 0 ∧ rI (match rtF N (mLd N h (a 93) (a 98)) (lC N) 1 y with | some s => nI s | none => -2) (putM G σ N D T z (va_up a 98 (mLd N h (a 93) (a 98))) tb) v σ'))) := by
  have hl := lC_le hN hN6
  refine ConP.of rfl (Nat.le_of_ble_eq_true rfl) ?_
  refine k_iload_n (pc' := 1) dX10_root_0 rfl ?_
  refine p_sI (ν := mX10_isHolder) (pc' := 4) dX10_root_1 ml_RX10_176 mo_X10_isHolder ms_X10_isHolder (Nat.le_of_ble_eq_true rfl) rfl rfl (Nat.le_of_ble_eq_true rfl) (by decide) (c_mIsHolder) ?_
  refine k_if_eq (tgt := 11) (pc' := 7) dX10_root_4 rfl (fun c_4 => ?_) (fun c_4 => ?_)
  · rw [bI_eq] at c_4
    refine k_iconst (pc' := 12) (v := -1) dX10_root_11 rfl ?_
    refine p_ireturn dX10_root_12 rfl ?_
    exact Or.inl ⟨fun q => c_4 q.1, rfl, rfl⟩
  rw [bI_ne] at c_4
  refine k_iload_n (pc' := 8) dX10_root_7 rfl ?_
  refine k_if_ge (tgt := 13) (pc' := 11) dX10_root_8 rfl (fun c_8 => ?_) (fun c_8 => ?_)
  rotate_left
  · rw [iLe, i0] at c_8
    refine k_iconst (pc' := 12) (v := -1) dX10_root_11 rfl ?_
    refine p_ireturn dX10_root_12 rfl ?_
    exact Or.inl ⟨fun q => c_8 q.2, rfl, rfl⟩
  rw [iLe, i0] at c_8
  obtain ⟨h, hh, hx⟩ := nI_in0 (x := x) (n := 6) (by omega) (by omega) (by decide)
  subst hx
  by_cases hb : mBar N h a = 0
  · refine k_aload_n (pc' := 14) dX10_root_13 rfl ?_
    refine k_iload_n (pc' := 15) dX10_root_14 rfl ?_
    refine p_vI (ν := mX10_bar) (pc' := 18) dX10_root_15 ml_RX10_182 mo_X10_bar mv_X10_bar clX10 (Nat.le_of_ble_eq_true rfl) rfl rfl (Nat.le_of_ble_eq_true rfl) (by first | assumption | decide | omega) (by first | rfl | assumption) (by decide) (c_bar hN hN6 hh) ?_
    rw [if_pos hb]
    refine k_if_eq (tgt := 27) (pc' := 21) dX10_root_18 rfl (fun _ => ?_) (fun zz_ => absurd hb zz_)
    refine k_iload_n (pc' := 28) dX10_root_27 rfl ?_
    refine k_istore_n (pc' := 29) dX10_root_28 (Nat.le_of_ble_eq_true rfl) rfl ?_
    refine k_iconst (pc' := 30) (v := nI 1) dX10_root_29 rfl ?_
    refine k_istore (pc' := 32) dX10_root_30 (Nat.le_of_ble_eq_true rfl) rfl ?_
    generalize hB : mLd N h (a 93) (a 98) = B
    have main : ∀ n s l, s + n = lC N + 1 → ∀ r, rtF N B n s l = r → OkP G mX10_root 4 (fun v σ' => (¬ ((0 ≤ (nI h).toInt ∧ (nI h).toInt ≤ 5) ∧ 0 ≤ y.toInt) ∧ rI (-1) (putM G σ N D T z a tb) v σ') ∨ ∃ h', nI h = nI h' ∧ h' < 6 ∧ 0 ≤ y.toInt ∧ ((¬ mBar N h' a = 0 ∧ rI (mBar N h' a) (putM G σ N D T z a tb) v σ') ∨ (mBar N h' a = 0 ∧ rI (match rtF N (mLd N h' (a 93) (a 98)) (lC N) 1 y with | some s => nI s | none => -2) (putM G σ N D T z (va_up a 98 (mLd N h' (a 93) (a 98))) tb) v σ'))) 32 [some (.ref (adr G 84)), some (.int (nI h)), some (.int y), some (.int l), some (.int (nI s))] [] (putM G σ N D T z (va_up a 98 B) tb) ∨ ¬ (rtF N B (lC N) 1 y = r) := by
      intro n
      induction n with
      | zero =>
        intro s l hs r hr
        by_cases hR : rtF N B (lC N) 1 y = r
        · left
          have hr : none = r := hr
          refine k_iload (pc' := 34) dX10_root_32 rfl ?_
          refine k_aload_n (pc' := 35) dX10_root_34 rfl ?_
          refine p_vI (ν := mX10_cuts) (pc' := 38) dX10_root_35 ml_RX10_85 mo_X10_cuts mv_X10_cuts clX10 (Nat.le_of_ble_eq_true rfl) rfl rfl (Nat.le_of_ble_eq_true rfl) (by first | assumption | decide | omega) (by first | rfl | assumption) (by decide) (c_cuts hN hN6) ?_
          refine k_icmp_gt (tgt := 69) (pc' := 41) dX10_root_38 rfl (fun _ => ?_) (fun zz_ => absurd (nI_lt (by omega) (by omega)) zz_)
          refine k_bipush (pc' := 71) (v := -2) dX10_root_69 rfl ?_
          refine p_ireturn dX10_root_71 rfl ?_
          refine Or.inr ⟨h, rfl, hh, c_8, Or.inr ⟨hb, ?_, by rw [hB]⟩⟩
          rw [hB, hR, ← hr]
        · exact Or.inr hR
      | succ n ih =>
        intro s l hs r hr
        unfold rtF at hr
        by_cases hz : mRt N (nI s) B = 0
        · rw [if_pos hz] at hr
          by_cases h0 : l = 0
          · rw [if_pos h0] at hr
            by_cases hR : rtF N B (lC N) 1 y = r
            · left
              refine k_iload (pc' := 34) dX10_root_32 rfl ?_
              refine k_aload_n (pc' := 35) dX10_root_34 rfl ?_
              refine p_vI (ν := mX10_cuts) (pc' := 38) dX10_root_35 ml_RX10_85 mo_X10_cuts mv_X10_cuts clX10 (Nat.le_of_ble_eq_true rfl) rfl rfl (Nat.le_of_ble_eq_true rfl) (by first | assumption | decide | omega) (by first | rfl | assumption) (by decide) (c_cuts hN hN6) ?_
              refine k_icmp_gt (tgt := 69) (pc' := 41) dX10_root_38 rfl (fun zz_ => absurd zz_ (nI_nlt (by omega) (by omega))) (fun _ => ?_)
              refine k_aload_n (pc' := 42) dX10_root_41 rfl ?_
              refine k_iload (pc' := 44) dX10_root_42 rfl ?_
              refine p_vI (ν := mX10_isRoot) (pc' := 47) dX10_root_44 ml_RX10_194 mo_X10_isRoot mv_X10_isRoot clX10 (Nat.le_of_ble_eq_true rfl) rfl rfl (Nat.le_of_ble_eq_true rfl) (by first | assumption | decide | omega) (by first | rfl | assumption) (by decide) (c_mIsRoot hN6) ?_
              refine k_if_ne (tgt := 53) (pc' := 50) dX10_root_47 rfl (fun _ => ?_) (fun zz_ => absurd zz_ (by rw [bI_ne]; exact hz))
              refine k_iload_n (pc' := 54) dX10_root_53 rfl ?_
              refine k_if_ne (tgt := 60) (pc' := 57) dX10_root_54 rfl (fun zz_ => absurd h0 zz_) (fun _ => ?_)
              refine k_iload (pc' := 59) dX10_root_57 rfl ?_
              refine p_ireturn dX10_root_59 rfl ?_
              refine Or.inr ⟨h, rfl, hh, c_8, Or.inr ⟨hb, ?_, by rw [hB]⟩⟩
              rw [hB, hR, ← hr]
            · exact Or.inr hR
          · rw [if_neg h0] at hr
            rcases ih (s + 1) (l + Int32.ofInt (-1)) (by omega) r hr with h1 | h1
            · left
              refine k_iload (pc' := 34) dX10_root_32 rfl ?_
              refine k_aload_n (pc' := 35) dX10_root_34 rfl ?_
              refine p_vI (ν := mX10_cuts) (pc' := 38) dX10_root_35 ml_RX10_85 mo_X10_cuts mv_X10_cuts clX10 (Nat.le_of_ble_eq_true rfl) rfl rfl (Nat.le_of_ble_eq_true rfl) (by first | assumption | decide | omega) (by first | rfl | assumption) (by decide) (c_cuts hN hN6) ?_
              refine k_icmp_gt (tgt := 69) (pc' := 41) dX10_root_38 rfl (fun zz_ => absurd zz_ (nI_nlt (by omega) (by omega))) (fun _ => ?_)
              refine k_aload_n (pc' := 42) dX10_root_41 rfl ?_
              refine k_iload (pc' := 44) dX10_root_42 rfl ?_
              refine p_vI (ν := mX10_isRoot) (pc' := 47) dX10_root_44 ml_RX10_194 mo_X10_isRoot mv_X10_isRoot clX10 (Nat.le_of_ble_eq_true rfl) rfl rfl (Nat.le_of_ble_eq_true rfl) (by first | assumption | decide | omega) (by first | rfl | assumption) (by decide) (c_mIsRoot hN6) ?_
              refine k_if_ne (tgt := 53) (pc' := 50) dX10_root_47 rfl (fun _ => ?_) (fun zz_ => absurd zz_ (by rw [bI_ne]; exact hz))
              refine k_iload_n (pc' := 54) dX10_root_53 rfl ?_
              refine k_if_ne (tgt := 60) (pc' := 57) dX10_root_54 rfl (fun _ => ?_) (fun zz_ => absurd zz_ h0)
              refine k_iinc (pc' := 63) (v := l + Int32.ofInt (-1)) dX10_root_60 rfl rfl (Nat.le_of_ble_eq_true rfl) rfl ?_
              refine k_iinc (pc' := 66) (v := nI (s + 1)) dX10_root_63 rfl (nI_inc _) (Nat.le_of_ble_eq_true rfl) rfl ?_
              refine k_goto (tgt := 32) dX10_root_66 rfl ?_
              exact h1
            · exact Or.inr h1
        · rw [if_neg hz] at hr
          rcases ih (s + 1) l (by omega) r hr with h1 | h1
          · left
            refine k_iload (pc' := 34) dX10_root_32 rfl ?_
            refine k_aload_n (pc' := 35) dX10_root_34 rfl ?_
            refine p_vI (ν := mX10_cuts) (pc' := 38) dX10_root_35 ml_RX10_85 mo_X10_cuts mv_X10_cuts clX10 (Nat.le_of_ble_eq_true rfl) rfl rfl (Nat.le_of_ble_eq_true rfl) (by first | assumption | decide | omega) (by first | rfl | assumption) (by decide) (c_cuts hN hN6) ?_
            refine k_icmp_gt (tgt := 69) (pc' := 41) dX10_root_38 rfl (fun zz_ => absurd zz_ (nI_nlt (by omega) (by omega))) (fun _ => ?_)
            refine k_aload_n (pc' := 42) dX10_root_41 rfl ?_
            refine k_iload (pc' := 44) dX10_root_42 rfl ?_
            refine p_vI (ν := mX10_isRoot) (pc' := 47) dX10_root_44 ml_RX10_194 mo_X10_isRoot mv_X10_isRoot clX10 (Nat.le_of_ble_eq_true rfl) rfl rfl (Nat.le_of_ble_eq_true rfl) (by first | assumption | decide | omega) (by first | rfl | assumption) (by decide) (c_mIsRoot hN6) ?_
            refine k_if_ne (tgt := 53) (pc' := 50) dX10_root_47 rfl (fun zz_ => absurd (by rw [bI_eq]; exact hz) zz_) (fun _ => ?_)
            refine k_goto (tgt := 63) dX10_root_50 rfl ?_
            refine k_iinc (pc' := 66) (v := nI (s + 1)) dX10_root_63 rfl (nI_inc _) (Nat.le_of_ble_eq_true rfl) rfl ?_
            refine k_goto (tgt := 32) dX10_root_66 rfl ?_
            exact h1
          · exact Or.inr h1
    exact (main (lC N) 1 y (by omega) _ rfl).elim id (fun q => absurd rfl q)
  · refine k_aload_n (pc' := 14) dX10_root_13 rfl ?_
    refine k_iload_n (pc' := 15) dX10_root_14 rfl ?_
    refine p_vI (ν := mX10_bar) (pc' := 18) dX10_root_15 ml_RX10_182 mo_X10_bar mv_X10_bar clX10 (Nat.le_of_ble_eq_true rfl) rfl rfl (Nat.le_of_ble_eq_true rfl) (by first | assumption | decide | omega) (by first | rfl | assumption) (by decide) (c_bar hN hN6 hh) ?_
    rw [if_neg hb]
    refine k_if_eq (tgt := 27) (pc' := 21) dX10_root_18 rfl (fun zz_ => absurd zz_ hb) (fun _ => ?_)
    refine k_aload_n (pc' := 22) dX10_root_21 rfl ?_
    refine k_iload_n (pc' := 23) dX10_root_22 rfl ?_
    refine p_vI (ν := mX10_bar) (pc' := 26) dX10_root_23 ml_RX10_182 mo_X10_bar mv_X10_bar clX10 (Nat.le_of_ble_eq_true rfl) rfl rfl (Nat.le_of_ble_eq_true rfl) (by first | assumption | decide | omega) (by first | rfl | assumption) (by decide) (c_bar hN hN6 hh) ?_
    rw [if_neg hb]
    refine p_ireturn dX10_root_26 rfl ?_
    exact Or.inr ⟨h, rfl, hh, c_8, Or.inl ⟨hb, rfl, rfl⟩⟩
theorem m_switched (hN : 2 ≤ N) (hN6 : N ≤ 6) {x y : Int32} : ConP G mX10_switched 3 [.ref (adr G 84), .int x, .int y] (putM G σ N D T z a tb) (fun v σ' => (¬ ((0 ≤ x.toInt ∧ x.toInt ≤ 5) ∧ (1 ≤ y.toInt ∧ y.toInt ≤ lC N)) ∧ rI (-1) (putM G σ N D T z a tb) v σ') ∨ ∃ h, x = nI h ∧ h < 6 ∧ (1 ≤ y.toInt ∧ y.toInt ≤ lC N) ∧ ((¬ mBar N h a = 0 ∧ rI (mBar N h a) (putM G σ N D T z a tb) v σ') ∨ (mBar N h a = 0 ∧ ¬ swS N y (mLd N h (a 93) (a 98)) = 0 ∧ rI (-5) (putM G σ N D T z (va_up a 98 (mLd N h (a 93) (a 98))) tb) v σ') ∨ (mBar N h a = 0 ∧ swS N y (mLd N h (a 93) (a 98)) = 0 ∧ rI (if swC N y (mLd N h (a 93) (a 98)) ≤ 0 then 0 else 1) (putM G σ N D T z (va_up (va_up a 98 (mLd N h (a 93) (a 98))) 93 (swW N h y (mLd N h (a 93) (a 98)) (a 93))) tb) v σ'))) := by
  refine ConP.of rfl (Nat.le_of_ble_eq_true rfl) ?_
  refine k_iload_n (pc' := 1) dX10_switched_0 rfl ?_
  refine p_sI (ν := mX10_isHolder) (pc' := 4) dX10_switched_1 ml_RX10_176 mo_X10_isHolder ms_X10_isHolder (Nat.le_of_ble_eq_true rfl) rfl rfl (Nat.le_of_ble_eq_true rfl) (by decide) (c_mIsHolder) ?_
  refine k_if_eq (tgt := 15) (pc' := 7) dX10_switched_4 rfl (fun c_4 => ?_) (fun c_4 => ?_)
  · rw [bI_eq] at c_4
    refine k_iconst (pc' := 16) (v := -1) dX10_switched_15 rfl ?_
    refine p_ireturn dX10_switched_16 rfl ?_
    exact Or.inl ⟨fun q => c_4 q.1, rfl, rfl⟩
  rw [bI_ne] at c_4
  refine k_aload_n (pc' := 8) dX10_switched_7 rfl ?_
  refine k_iload_n (pc' := 9) dX10_switched_8 rfl ?_
  refine p_vI (ν := mX10_isCut) (pc' := 12) dX10_switched_9 ml_RX10_122 mo_X10_isCut mv_X10_isCut clX10 (Nat.le_of_ble_eq_true rfl) rfl rfl (Nat.le_of_ble_eq_true rfl) (by first | assumption | decide | omega) (by first | rfl | assumption) (by decide) (c_isCut hN hN6) ?_
  refine k_if_ne (tgt := 17) (pc' := 15) dX10_switched_12 rfl (fun c_12 => ?_) (fun c_12 => ?_)
  rotate_left
  · rw [bI_eq] at c_12
    refine k_iconst (pc' := 16) (v := -1) dX10_switched_15 rfl ?_
    refine p_ireturn dX10_switched_16 rfl ?_
    exact Or.inl ⟨fun q => c_12 q.2, rfl, rfl⟩
  rw [bI_ne] at c_12
  obtain ⟨h, hh, hx⟩ := nI_in0 (x := x) (n := 6) (by omega) (by omega) (by decide)
  subst hx
  by_cases hb : mBar N h a = 0
  rotate_left
  · refine k_aload_n (pc' := 18) dX10_switched_17 rfl ?_
    refine k_iload_n (pc' := 19) dX10_switched_18 rfl ?_
    refine p_vI (ν := mX10_bar) (pc' := 22) dX10_switched_19 ml_RX10_182 mo_X10_bar mv_X10_bar clX10 (Nat.le_of_ble_eq_true rfl) rfl rfl (Nat.le_of_ble_eq_true rfl) (by first | assumption | decide | omega) (by first | rfl | assumption) (by decide) (c_bar hN hN6 hh) ?_
    rw [if_neg hb]
    refine k_if_eq (tgt := 31) (pc' := 25) dX10_switched_22 rfl (fun zz_ => absurd zz_ hb) (fun _ => ?_)
    refine k_aload_n (pc' := 26) dX10_switched_25 rfl ?_
    refine k_iload_n (pc' := 27) dX10_switched_26 rfl ?_
    refine p_vI (ν := mX10_bar) (pc' := 30) dX10_switched_27 ml_RX10_182 mo_X10_bar mv_X10_bar clX10 (Nat.le_of_ble_eq_true rfl) rfl rfl (Nat.le_of_ble_eq_true rfl) (by first | assumption | decide | omega) (by first | rfl | assumption) (by decide) (c_bar hN hN6 hh) ?_
    rw [if_neg hb]
    refine p_ireturn dX10_switched_30 rfl ?_
    exact Or.inr ⟨h, rfl, hh, c_12, Or.inl ⟨hb, rfl, rfl⟩⟩
  refine k_aload_n (pc' := 18) dX10_switched_17 rfl ?_
  refine k_iload_n (pc' := 19) dX10_switched_18 rfl ?_
  refine p_vI (ν := mX10_bar) (pc' := 22) dX10_switched_19 ml_RX10_182 mo_X10_bar mv_X10_bar clX10 (Nat.le_of_ble_eq_true rfl) rfl rfl (Nat.le_of_ble_eq_true rfl) (by first | assumption | decide | omega) (by first | rfl | assumption) (by decide) (c_bar hN hN6 hh) ?_
  rw [if_pos hb]
  refine k_if_eq (tgt := 31) (pc' := 25) dX10_switched_22 rfl (fun _ => ?_) (fun zz_ => absurd hb zz_)
  refine k_iconst (pc' := 32) (v := nI 0) dX10_switched_31 rfl ?_
  refine k_istore_n (pc' := 33) dX10_switched_32 (Nat.le_of_ble_eq_true rfl) rfl ?_
  refine k_iconst (pc' := 34) (v := nI 0) dX10_switched_33 rfl ?_
  refine k_istore (pc' := 36) dX10_switched_34 (Nat.le_of_ble_eq_true rfl) rfl ?_
  refine k_iconst (pc' := 37) (v := nI 0) dX10_switched_36 rfl ?_
  refine k_istore (pc' := 39) dX10_switched_37 (Nat.le_of_ble_eq_true rfl) rfl ?_
  generalize hQ : (fun v σ' => (¬ ((0 ≤ (nI h).toInt ∧ (nI h).toInt ≤ 5) ∧ (1 ≤ y.toInt ∧ y.toInt ≤ lC N)) ∧ rI (-1) (putM G σ N D T z a tb) v σ') ∨ ∃ h', nI h = nI h' ∧ h' < 6 ∧ (1 ≤ y.toInt ∧ y.toInt ≤ lC N) ∧ ((¬ mBar N h' a = 0 ∧ rI (mBar N h' a) (putM G σ N D T z a tb) v σ') ∨ (mBar N h' a = 0 ∧ ¬ swS N y (mLd N h' (a 93) (a 98)) = 0 ∧ rI (-5) (putM G σ N D T z (va_up a 98 (mLd N h' (a 93) (a 98))) tb) v σ') ∨ (mBar N h' a = 0 ∧ swS N y (mLd N h' (a 93) (a 98)) = 0 ∧ rI (if swC N y (mLd N h' (a 93) (a 98)) ≤ 0 then 0 else 1) (putM G σ N D T z (va_up (va_up a 98 (mLd N h' (a 93) (a 98))) 93 (swW N h' y (mLd N h' (a 93) (a 98)) (a 93))) tb) v σ'))) = Qf
  generalize hB : mLd N h (a 93) (a 98) = B
  have e2 : ∀ n k (s c : Int32), upn n k (fun p (f : I2) => (f.1 + (if hasP y p then B p else nI 0), f.2 + (if hasP y p ∧ ¬ B p = 0 then nI 1 else nI 0))) (s, c) = (upn n k (fun p s => s + (if hasP y p then B p else nI 0)) s, upn n k (fun p s => s + (if hasP y p ∧ ¬ B p = 0 then nI 1 else nI 0)) c) := by
    intro n
    induction n with
    | zero => intros; rfl
    | succ n ih => intro k s c; exact ih (k + 1) _ _
  refine loopU (fun p (s : I2) => OkP G mX10_switched 3 Qf 39 [some (.ref (adr G 84)), some (.int (nI h)), some (.int y), some (.int s.1), some (.int s.2), some (.int (nI p))] [] (putM G σ N D T z (va_up a 98 B) tb)) (fun p (f : I2) => (f.1 + (if hasP y p then B p else nI 0), f.2 + (if hasP y p ∧ ¬ B p = 0 then nI 1 else nI 0))) N 0 N (nI 0, nI 0) (by omega) ?_ ?_
  · intro p s _ hp ih
    by_cases h1 : hasP y p
    · by_cases h2 : B p = 0
      · dsimp only at ih
        rw [if_pos h1, if_neg (fun q => q.2 h2)] at ih
        refine k_iload (pc' := 41) dX10_switched_39 rfl ?_
        refine k_aload_n (pc' := 42) dX10_switched_41 rfl ?_
        refine p_get (pc' := 45) clX10 (Nat.le_of_ble_eq_true rfl) fl_RX10_9 dX10_switched_42 (by first | assumption | decide | omega) (by first | rfl | assumption) rfl ?_
        refine k_icmp_ge (tgt := 106) (pc' := 48) dX10_switched_45 rfl (fun zz_ => absurd zz_ (nI_ge (by omega) (by omega))) (fun _ => ?_)
        refine k_iload_n (pc' := 49) dX10_switched_48 rfl ?_
        refine k_iload_n (pc' := 50) dX10_switched_49 rfl ?_
        refine k_iload (pc' := 52) dX10_switched_50 rfl ?_
        refine p_sI (ν := mX10_has) (pc' := 55) dX10_switched_52 ml_RX10_89 mo_X10_has ms_X10_has (Nat.le_of_ble_eq_true rfl) rfl rfl (Nat.le_of_ble_eq_true rfl) (by decide) (c_has (by omega)) ?_
        refine k_if_eq (tgt := 68) (pc' := 58) dX10_switched_55 rfl (fun zz_ => absurd zz_ (by rw [bI_eq]; exact fun q => q h1)) (fun _ => ?_)
        refine k_aload_n (pc' := 59) dX10_switched_58 rfl ?_
        refine p_get (pc' := 62) clX10 (Nat.le_of_ble_eq_true rfl) fl_RX10_55 dX10_switched_59 (by first | assumption | decide | omega) (by first | rfl | assumption) rfl ?_
        refine k_iload (pc' := 64) dX10_switched_62 rfl ?_
        refine p_ialdN (pc' := 65) dX10_switched_64 (by first | assumption | decide | omega) (by first | rfl | assumption) (by first | decide | omega) (by first | omega | (simp only [mL85, mL86, mL87, mL88, mL89, mL90, mL91, mL92, mL93, mL94, mL95, mL96, mL97, mL98, mL100, mL101, mL102, mL103]; omega)) ?_
        refine k_goto (tgt := 69) dX10_switched_65 rfl ?_
        refine k_iadd (pc' := 70) (v := s.1 + B p) dX10_switched_69 rfl ?_
        refine k_istore_n (pc' := 71) dX10_switched_70 (Nat.le_of_ble_eq_true rfl) rfl ?_
        refine k_iload (pc' := 73) dX10_switched_71 rfl ?_
        refine k_iload_n (pc' := 74) dX10_switched_73 rfl ?_
        refine k_iload (pc' := 76) dX10_switched_74 rfl ?_
        refine p_sI (ν := mX10_has) (pc' := 79) dX10_switched_76 ml_RX10_89 mo_X10_has ms_X10_has (Nat.le_of_ble_eq_true rfl) rfl rfl (Nat.le_of_ble_eq_true rfl) (by decide) (c_has (by omega)) ?_
        refine k_if_eq (tgt := 96) (pc' := 82) dX10_switched_79 rfl (fun zz_ => absurd zz_ (by rw [bI_eq]; exact fun q => q h1)) (fun _ => ?_)
        refine k_aload_n (pc' := 83) dX10_switched_82 rfl ?_
        refine p_get (pc' := 86) clX10 (Nat.le_of_ble_eq_true rfl) fl_RX10_55 dX10_switched_83 (by first | assumption | decide | omega) (by first | rfl | assumption) rfl ?_
        refine k_iload (pc' := 88) dX10_switched_86 rfl ?_
        refine p_ialdN (pc' := 89) dX10_switched_88 (by first | assumption | decide | omega) (by first | rfl | assumption) (by first | decide | omega) (by first | omega | (simp only [mL85, mL86, mL87, mL88, mL89, mL90, mL91, mL92, mL93, mL94, mL95, mL96, mL97, mL98, mL100, mL101, mL102, mL103]; omega)) ?_
        refine k_if_eq (tgt := 96) (pc' := 92) dX10_switched_89 rfl (fun _ => ?_) (fun zz_ => absurd h2 zz_)
        refine k_iconst (pc' := 97) (v := nI 0) dX10_switched_96 rfl ?_
        refine k_iadd (pc' := 98) (v := s.2 + nI 0) dX10_switched_97 rfl ?_
        refine k_istore (pc' := 100) dX10_switched_98 (Nat.le_of_ble_eq_true rfl) rfl ?_
        refine k_iinc (pc' := 103) (v := nI (p + 1)) dX10_switched_100 rfl (nI_inc _) (Nat.le_of_ble_eq_true rfl) rfl ?_
        refine k_goto (tgt := 39) dX10_switched_103 rfl ?_
        exact ih
      · dsimp only at ih
        rw [if_pos h1, if_pos ⟨h1, h2⟩] at ih
        refine k_iload (pc' := 41) dX10_switched_39 rfl ?_
        refine k_aload_n (pc' := 42) dX10_switched_41 rfl ?_
        refine p_get (pc' := 45) clX10 (Nat.le_of_ble_eq_true rfl) fl_RX10_9 dX10_switched_42 (by first | assumption | decide | omega) (by first | rfl | assumption) rfl ?_
        refine k_icmp_ge (tgt := 106) (pc' := 48) dX10_switched_45 rfl (fun zz_ => absurd zz_ (nI_ge (by omega) (by omega))) (fun _ => ?_)
        refine k_iload_n (pc' := 49) dX10_switched_48 rfl ?_
        refine k_iload_n (pc' := 50) dX10_switched_49 rfl ?_
        refine k_iload (pc' := 52) dX10_switched_50 rfl ?_
        refine p_sI (ν := mX10_has) (pc' := 55) dX10_switched_52 ml_RX10_89 mo_X10_has ms_X10_has (Nat.le_of_ble_eq_true rfl) rfl rfl (Nat.le_of_ble_eq_true rfl) (by decide) (c_has (by omega)) ?_
        refine k_if_eq (tgt := 68) (pc' := 58) dX10_switched_55 rfl (fun zz_ => absurd zz_ (by rw [bI_eq]; exact fun q => q h1)) (fun _ => ?_)
        refine k_aload_n (pc' := 59) dX10_switched_58 rfl ?_
        refine p_get (pc' := 62) clX10 (Nat.le_of_ble_eq_true rfl) fl_RX10_55 dX10_switched_59 (by first | assumption | decide | omega) (by first | rfl | assumption) rfl ?_
        refine k_iload (pc' := 64) dX10_switched_62 rfl ?_
        refine p_ialdN (pc' := 65) dX10_switched_64 (by first | assumption | decide | omega) (by first | rfl | assumption) (by first | decide | omega) (by first | omega | (simp only [mL85, mL86, mL87, mL88, mL89, mL90, mL91, mL92, mL93, mL94, mL95, mL96, mL97, mL98, mL100, mL101, mL102, mL103]; omega)) ?_
        refine k_goto (tgt := 69) dX10_switched_65 rfl ?_
        refine k_iadd (pc' := 70) (v := s.1 + B p) dX10_switched_69 rfl ?_
        refine k_istore_n (pc' := 71) dX10_switched_70 (Nat.le_of_ble_eq_true rfl) rfl ?_
        refine k_iload (pc' := 73) dX10_switched_71 rfl ?_
        refine k_iload_n (pc' := 74) dX10_switched_73 rfl ?_
        refine k_iload (pc' := 76) dX10_switched_74 rfl ?_
        refine p_sI (ν := mX10_has) (pc' := 79) dX10_switched_76 ml_RX10_89 mo_X10_has ms_X10_has (Nat.le_of_ble_eq_true rfl) rfl rfl (Nat.le_of_ble_eq_true rfl) (by decide) (c_has (by omega)) ?_
        refine k_if_eq (tgt := 96) (pc' := 82) dX10_switched_79 rfl (fun zz_ => absurd zz_ (by rw [bI_eq]; exact fun q => q h1)) (fun _ => ?_)
        refine k_aload_n (pc' := 83) dX10_switched_82 rfl ?_
        refine p_get (pc' := 86) clX10 (Nat.le_of_ble_eq_true rfl) fl_RX10_55 dX10_switched_83 (by first | assumption | decide | omega) (by first | rfl | assumption) rfl ?_
        refine k_iload (pc' := 88) dX10_switched_86 rfl ?_
        refine p_ialdN (pc' := 89) dX10_switched_88 (by first | assumption | decide | omega) (by first | rfl | assumption) (by first | decide | omega) (by first | omega | (simp only [mL85, mL86, mL87, mL88, mL89, mL90, mL91, mL92, mL93, mL94, mL95, mL96, mL97, mL98, mL100, mL101, mL102, mL103]; omega)) ?_
        refine k_if_eq (tgt := 96) (pc' := 92) dX10_switched_89 rfl (fun zz_ => absurd zz_ h2) (fun _ => ?_)
        refine k_iconst (pc' := 93) (v := nI 1) dX10_switched_92 rfl ?_
        refine k_goto (tgt := 97) dX10_switched_93 rfl ?_
        refine k_iadd (pc' := 98) (v := s.2 + nI 1) dX10_switched_97 rfl ?_
        refine k_istore (pc' := 100) dX10_switched_98 (Nat.le_of_ble_eq_true rfl) rfl ?_
        refine k_iinc (pc' := 103) (v := nI (p + 1)) dX10_switched_100 rfl (nI_inc _) (Nat.le_of_ble_eq_true rfl) rfl ?_
        refine k_goto (tgt := 39) dX10_switched_103 rfl ?_
        exact ih
    · dsimp only at ih
      rw [if_neg h1, if_neg (fun q => h1 q.1)] at ih
      refine k_iload (pc' := 41) dX10_switched_39 rfl ?_
      refine k_aload_n (pc' := 42) dX10_switched_41 rfl ?_
      refine p_get (pc' := 45) clX10 (Nat.le_of_ble_eq_true rfl) fl_RX10_9 dX10_switched_42 (by first | assumption | decide | omega) (by first | rfl | assumption) rfl ?_
      refine k_icmp_ge (tgt := 106) (pc' := 48) dX10_switched_45 rfl (fun zz_ => absurd zz_ (nI_ge (by omega) (by omega))) (fun _ => ?_)
      refine k_iload_n (pc' := 49) dX10_switched_48 rfl ?_
      refine k_iload_n (pc' := 50) dX10_switched_49 rfl ?_
      refine k_iload (pc' := 52) dX10_switched_50 rfl ?_
      refine p_sI (ν := mX10_has) (pc' := 55) dX10_switched_52 ml_RX10_89 mo_X10_has ms_X10_has (Nat.le_of_ble_eq_true rfl) rfl rfl (Nat.le_of_ble_eq_true rfl) (by decide) (c_has (by omega)) ?_
      refine k_if_eq (tgt := 68) (pc' := 58) dX10_switched_55 rfl (fun _ => ?_) (fun zz_ => absurd (by rw [bI_eq]; exact h1) zz_)
      refine k_iconst (pc' := 69) (v := nI 0) dX10_switched_68 rfl ?_
      refine k_iadd (pc' := 70) (v := s.1 + nI 0) dX10_switched_69 rfl ?_
      refine k_istore_n (pc' := 71) dX10_switched_70 (Nat.le_of_ble_eq_true rfl) rfl ?_
      refine k_iload (pc' := 73) dX10_switched_71 rfl ?_
      refine k_iload_n (pc' := 74) dX10_switched_73 rfl ?_
      refine k_iload (pc' := 76) dX10_switched_74 rfl ?_
      refine p_sI (ν := mX10_has) (pc' := 79) dX10_switched_76 ml_RX10_89 mo_X10_has ms_X10_has (Nat.le_of_ble_eq_true rfl) rfl rfl (Nat.le_of_ble_eq_true rfl) (by decide) (c_has (by omega)) ?_
      refine k_if_eq (tgt := 96) (pc' := 82) dX10_switched_79 rfl (fun _ => ?_) (fun zz_ => absurd (by rw [bI_eq]; exact h1) zz_)
      refine k_iconst (pc' := 97) (v := nI 0) dX10_switched_96 rfl ?_
      refine k_iadd (pc' := 98) (v := s.2 + nI 0) dX10_switched_97 rfl ?_
      refine k_istore (pc' := 100) dX10_switched_98 (Nat.le_of_ble_eq_true rfl) rfl ?_
      refine k_iinc (pc' := 103) (v := nI (p + 1)) dX10_switched_100 rfl (nI_inc _) (Nat.le_of_ble_eq_true rfl) rfl ?_
      refine k_goto (tgt := 39) dX10_switched_103 rfl ?_
      exact ih
  · rw [e2]
    show OkP G mX10_switched 3 Qf 39 [some (.ref (adr G 84)), some (.int (nI h)), some (.int y), some (.int (swS N y B)), some (.int (swC N y B)), some (.int (nI N))] [] (putM G σ N D T z (va_up a 98 B) tb)
    by_cases hs : swS N y B = 0
    rotate_left
    · refine k_iload (pc' := 41) dX10_switched_39 rfl ?_
      refine k_aload_n (pc' := 42) dX10_switched_41 rfl ?_
      refine p_get (pc' := 45) clX10 (Nat.le_of_ble_eq_true rfl) fl_RX10_9 dX10_switched_42 (by first | assumption | decide | omega) (by first | rfl | assumption) rfl ?_
      refine k_icmp_ge (tgt := 106) (pc' := 48) dX10_switched_45 rfl (fun _ => ?_) (fun zz_ => absurd (nI_le (by omega) (by omega)) zz_)
      refine k_iload_n (pc' := 107) dX10_switched_106 rfl ?_
      refine k_if_eq (tgt := 113) (pc' := 110) dX10_switched_107 rfl (fun zz_ => absurd zz_ hs) (fun _ => ?_)
      refine k_bipush (pc' := 112) (v := -5) dX10_switched_110 rfl ?_
      refine p_ireturn dX10_switched_112 rfl ?_
      rw [← hQ]
      exact Or.inr ⟨h, rfl, hh, c_12, Or.inr (Or.inl ⟨hb, by rw [hB]; exact hs, rfl, by rw [hB]⟩)⟩
    refine k_iload (pc' := 41) dX10_switched_39 rfl ?_
    refine k_aload_n (pc' := 42) dX10_switched_41 rfl ?_
    refine p_get (pc' := 45) clX10 (Nat.le_of_ble_eq_true rfl) fl_RX10_9 dX10_switched_42 (by first | assumption | decide | omega) (by first | rfl | assumption) rfl ?_
    refine k_icmp_ge (tgt := 106) (pc' := 48) dX10_switched_45 rfl (fun _ => ?_) (fun zz_ => absurd (nI_le (by omega) (by omega)) zz_)
    refine k_iload_n (pc' := 107) dX10_switched_106 rfl ?_
    refine k_if_eq (tgt := 113) (pc' := 110) dX10_switched_107 rfl (fun _ => ?_) (fun zz_ => absurd hs zz_)
    refine k_iconst (pc' := 114) (v := nI 0) dX10_switched_113 rfl ?_
    refine k_istore (pc' := 116) dX10_switched_114 (Nat.le_of_ble_eq_true rfl) rfl ?_
    have key := loopU (fun p c => OkP G mX10_switched 3 Qf 116 [some (.ref (adr G 84)), some (.int (nI h)), some (.int y), some (.int (swS N y B)), some (.int (swC N y B)), some (.int (nI p))] [] (putM G σ N D T z (va_up (va_up a 98 B) 93 c) tb)) (fun p c => if hasP y p then upd c (20 * h + p) (-(B p)) else c) N 0 N (a 93) (by omega) ?_ ?_
    · rw [show va_up (va_up a 98 B) 93 (a 93) = va_up a 98 B from up_id (up_n (by decide))] at key
      exact key
    · intro p c _ hp ih
      by_cases h1 : hasP y p
      · rw [if_pos h1] at ih
        refine k_iload (pc' := 118) dX10_switched_116 rfl ?_
        refine k_aload_n (pc' := 119) dX10_switched_118 rfl ?_
        refine p_get (pc' := 122) clX10 (Nat.le_of_ble_eq_true rfl) fl_RX10_9 dX10_switched_119 (by first | assumption | decide | omega) (by first | rfl | assumption) rfl ?_
        refine k_icmp_ge (tgt := 160) (pc' := 125) dX10_switched_122 rfl (fun zz_ => absurd zz_ (nI_ge (by omega) (by omega))) (fun _ => ?_)
        refine k_iload_n (pc' := 126) dX10_switched_125 rfl ?_
        refine k_iload (pc' := 128) dX10_switched_126 rfl ?_
        refine p_sI (ν := mX10_has) (pc' := 131) dX10_switched_128 ml_RX10_89 mo_X10_has ms_X10_has (Nat.le_of_ble_eq_true rfl) rfl rfl (Nat.le_of_ble_eq_true rfl) (by decide) (c_has (by omega)) ?_
        refine k_if_eq (tgt := 154) (pc' := 134) dX10_switched_131 rfl (fun zz_ => absurd zz_ (by rw [bI_eq]; exact fun q => q h1)) (fun _ => ?_)
        refine k_aload_n (pc' := 135) dX10_switched_134 rfl ?_
        refine p_get (pc' := 138) clX10 (Nat.le_of_ble_eq_true rfl) fl_RX10_40 dX10_switched_135 (by first | assumption | decide | omega) (by first | rfl | assumption) rfl ?_
        refine k_bipush (pc' := 140) (v := nI 20) dX10_switched_138 rfl ?_
        refine k_iload_n (pc' := 141) dX10_switched_140 rfl ?_
        refine k_imul (pc' := 142) dX10_switched_141 (by first | exact pk_mul _ _ | rfl) ?_
        refine k_iload (pc' := 144) dX10_switched_142 rfl ?_
        refine k_iadd (pc' := 145) dX10_switched_144 (by first | exact nI_add _ _ | rfl) ?_
        refine k_aload_n (pc' := 146) dX10_switched_145 rfl ?_
        refine p_get (pc' := 149) clX10 (Nat.le_of_ble_eq_true rfl) fl_RX10_55 dX10_switched_146 (by first | assumption | decide | omega) (by first | rfl | assumption) rfl ?_
        refine k_iload (pc' := 151) dX10_switched_149 rfl ?_
        refine p_ialdN (pc' := 152) dX10_switched_151 (by first | assumption | decide | omega) (by first | rfl | assumption) (by first | decide | omega) (by first | omega | (simp only [mL85, mL86, mL87, mL88, mL89, mL90, mL91, mL92, mL93, mL94, mL95, mL96, mL97, mL98, mL100, mL101, mL102, mL103]; omega)) ?_
        refine k_ineg (pc' := 153) dX10_switched_152 rfl ?_
        refine p_iastN (pc' := 154) (σ1 := putM G σ N D T z (va_up (va_up a 98 B) 93 (upd c (20 * h + p) (-(B p)))) tb) dX10_switched_153 (by first | assumption | decide | omega) (by first | rfl | assumption) (by first | decide | omega) (by first | omega | (simp only [mL85, mL86, mL87, mL88, mL89, mL90, mL91, mL92, mL93, mL94, mL95, mL96, mL97, mL98, mL100, mL101, mL102, mL103]; omega)) (by exact (by rw [pMa (by decide), up_up]; rfl)) ?_
        refine k_iinc (pc' := 157) (v := nI (p + 1)) dX10_switched_154 rfl (nI_inc _) (Nat.le_of_ble_eq_true rfl) rfl ?_
        refine k_goto (tgt := 116) dX10_switched_157 rfl ?_
        exact ih
      · rw [if_neg h1] at ih
        refine k_iload (pc' := 118) dX10_switched_116 rfl ?_
        refine k_aload_n (pc' := 119) dX10_switched_118 rfl ?_
        refine p_get (pc' := 122) clX10 (Nat.le_of_ble_eq_true rfl) fl_RX10_9 dX10_switched_119 (by first | assumption | decide | omega) (by first | rfl | assumption) rfl ?_
        refine k_icmp_ge (tgt := 160) (pc' := 125) dX10_switched_122 rfl (fun zz_ => absurd zz_ (nI_ge (by omega) (by omega))) (fun _ => ?_)
        refine k_iload_n (pc' := 126) dX10_switched_125 rfl ?_
        refine k_iload (pc' := 128) dX10_switched_126 rfl ?_
        refine p_sI (ν := mX10_has) (pc' := 131) dX10_switched_128 ml_RX10_89 mo_X10_has ms_X10_has (Nat.le_of_ble_eq_true rfl) rfl rfl (Nat.le_of_ble_eq_true rfl) (by decide) (c_has (by omega)) ?_
        refine k_if_eq (tgt := 154) (pc' := 134) dX10_switched_131 rfl (fun _ => ?_) (fun zz_ => absurd (by rw [bI_eq]; exact h1) zz_)
        refine k_iinc (pc' := 157) (v := nI (p + 1)) dX10_switched_154 rfl (nI_inc _) (Nat.le_of_ble_eq_true rfl) rfl ?_
        refine k_goto (tgt := 116) dX10_switched_157 rfl ?_
        exact ih
    · show OkP G mX10_switched 3 Qf 116 [some (.ref (adr G 84)), some (.int (nI h)), some (.int y), some (.int (swS N y B)), some (.int (swC N y B)), some (.int (nI N))] [] (putM G σ N D T z (va_up (va_up a 98 B) 93 (swW N h y B (a 93))) tb)
      by_cases hc : swC N y B ≤ 0
      · refine k_iload (pc' := 118) dX10_switched_116 rfl ?_
        refine k_aload_n (pc' := 119) dX10_switched_118 rfl ?_
        refine p_get (pc' := 122) clX10 (Nat.le_of_ble_eq_true rfl) fl_RX10_9 dX10_switched_119 (by first | assumption | decide | omega) (by first | rfl | assumption) rfl ?_
        refine k_icmp_ge (tgt := 160) (pc' := 125) dX10_switched_122 rfl (fun _ => ?_) (fun zz_ => absurd (nI_le (by omega) (by omega)) zz_)
        refine k_iload (pc' := 162) dX10_switched_160 rfl ?_
        refine k_if_le (tgt := 169) (pc' := 165) dX10_switched_162 rfl (fun _ => ?_) (fun zz_ => absurd hc zz_)
        refine k_iconst (pc' := 170) (v := nI 0) dX10_switched_169 rfl ?_
        refine p_ireturn dX10_switched_170 rfl ?_
        rw [← hQ]
        exact Or.inr ⟨h, rfl, hh, c_12, Or.inr (Or.inr ⟨hb, by rw [hB]; exact hs, by rw [hB, if_pos hc]; rfl, by rw [hB]⟩)⟩
      · refine k_iload (pc' := 118) dX10_switched_116 rfl ?_
        refine k_aload_n (pc' := 119) dX10_switched_118 rfl ?_
        refine p_get (pc' := 122) clX10 (Nat.le_of_ble_eq_true rfl) fl_RX10_9 dX10_switched_119 (by first | assumption | decide | omega) (by first | rfl | assumption) rfl ?_
        refine k_icmp_ge (tgt := 160) (pc' := 125) dX10_switched_122 rfl (fun _ => ?_) (fun zz_ => absurd (nI_le (by omega) (by omega)) zz_)
        refine k_iload (pc' := 162) dX10_switched_160 rfl ?_
        refine k_if_le (tgt := 169) (pc' := 165) dX10_switched_162 rfl (fun zz_ => absurd zz_ hc) (fun _ => ?_)
        refine k_iconst (pc' := 166) (v := nI 1) dX10_switched_165 rfl ?_
        refine k_goto (tgt := 170) dX10_switched_166 rfl ?_
        refine p_ireturn dX10_switched_170 rfl ?_
        rw [← hQ]
        exact Or.inr ⟨h, rfl, hh, c_12, Or.inr (Or.inr ⟨hb, by rw [hB]; exact hs, by rw [hB, if_neg hc]; rfl, by rw [hB]⟩)⟩
end MODEL8
