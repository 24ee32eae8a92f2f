/-! pairs: walls, wall, holdWall -/
theorem sg_last {h : Nat → Int32} : ∀ n k, sg (n + 1) k h = sg n k h + h (k + n) := by
  intro n
  induction n with
  | zero =>
    intro k
    show h k + 0 = 0 + h k
    rw [Int32.add_zero, Int32.zero_add]
  | succ n ih =>
    intro k
    show h k + sg (n + 1) (k + 1) h = (h k + sg n (k + 1) h) + h (k + (n + 1))
    rw [ih, show k + 1 + n = k + (n + 1) by omega, Int32.add_assoc]
theorem sg_add {h g : Nat → Int32} : ∀ n k, sg n k (fun i => h i + g i) = sg n k h + sg n k g := by
  intro n
  induction n with
  | zero => intro k; show (0 : Int32) = 0 + 0; rfl
  | succ n ih =>
    intro k
    show (h k + g k) + sg n (k + 1) _ = (h k + sg n (k + 1) h) + (g k + sg n (k + 1) g)
    rw [ih]
    grind
theorem sg_mul {h : Nat → Int32} {c : Int32} : ∀ n k, sg n k (fun i => c * h i) = c * sg n k h := by
  intro n
  induction n with
  | zero => intro k; show (0 : Int32) = c * 0; rw [Int32.mul_zero]
  | succ n ih =>
    intro k
    show c * h k + sg n (k + 1) _ = c * (h k + sg n (k + 1) h)
    rw [ih]
    grind
section WL3
variable {N m p : Nat} {ft f : Nat → Int32}
theorem plB_sg {b : Nat → Int32} {j : Nat} : ∀ q, plB N ft b j q = sg q 0 (fun i => b i * dT N ft i j) := by
  intro q
  induction q with
  | zero => rfl
  | succ q ih =>
    rw [sg_last, Nat.zero_add, ← ih]
    rfl
theorem fvB_sg {b : Nat → Int32} : ∀ n, fvB N ft b n = sg n 0 (fun i => sg (n - (i + 1)) (i + 1) (fun j => b i * b j * dT N ft i j)) := by
  intro n
  induction n with
  | zero => rfl
  | succ n ih =>
    rw [sg_last, Nat.zero_add, show n + 1 - (n + 1) = 0 by omega]
    show fvB N ft b n + b n * plB N ft b n n = _ + 0
    rw [Int32.add_zero, ih, plB_sg, ← sg_mul, ← sg_add]
    refine sg_congr _ _ (fun i _ hi => ?_)
    rw [show n + 1 - (i + 1) = (n - (i + 1)) + 1 by omega, sg_last, show i + 1 + (n - (i + 1)) = n by omega]
    congr 1
    grind
theorem fvB_val {b : Nat → Int32} (h : FR N ft f) : fvB N ft b N = mVa N b f := by
  rw [fvB_sg]
  unfold mVa
  have e : mVa2 N b f = fun i s => s + sg (N - (i + 1)) (i + 1) (fun j => b i * b j * f (6 * i + j)) := by
    funext i s
    exact upn_sg _ _ _
  rw [e, upn_sg, show nI 0 = (0 : Int32) from rfl, Int32.zero_add]
  refine sg_congr _ _ (fun i _ hi => sg_congr _ _ (fun j h1 h2 => ?_))
  rw [h i (by omega) j (by omega)]
theorem goO_end {w : WS} {b : Nat → Int32} (h : WkP N ft N w b) (hx : Emx N m 0 b) : goO N m ft w = none := by
  have : ∀ j, j < N → goD N m ft w j = none := by
    intro j
    induction j with
    | zero => intro _; rfl
    | succ j ih =>
      intro hj
      rw [goD_skip h (by omega) (hx j (by omega) hj)]
      exact ih (by omega)
  by_cases e : N = 0
  · unfold goO
    rw [e]
    rfl
  · exact this (N - 1) (by omega)
theorem xWl_fold : ∀ (L : List (Nat → Int32)) (c : Nat → Int32) (w : WS) (s : I6) (n : Nat), (c :: L).length ≤ n → WkP N ft N w c → lnk (Sst N m ft) (c :: L) (Emx N m 0) → (xWl N m ft n w s).2.2 = (c :: L).foldl (fun s b => wlS (fvB N ft b N) s) s := by
  intro L
  induction L with
  | nil =>
    intro c w s n hn hw hl
    obtain ⟨k, rfl⟩ : ∃ k, n = k + 1 := ⟨n - 1, by simp at hn; omega⟩
    unfold xWl
    rw [goO_end hw hl, (hw.2 N (Nat.le_refl _)).2.1]
    rfl
  | cons d L ih =>
    intro c w s n hn hw hl
    obtain ⟨k, rfl⟩ : ∃ k, n = k + 1 := ⟨n - 1, by simp at hn; omega⟩
    obtain ⟨w', g1, g2⟩ := hl.1 w hw
    unfold xWl
    rw [g1, (hw.2 N (Nat.le_refl _)).2.1]
    exact ih d w' _ k (by simp at hn ⊢; omega) g2 hl.2
theorem itG_nth : ∀ (L : List (Nat → Int32)) (c : Nat → Int32) (w : WS) (n : Nat), WkP N ft N w c → lnk (Sst N m ft) (c :: L) (Emx N m 0) → match (c :: L)[n]? with | some b => (itG N m ft n w).1 = 1 ∧ WkP N ft N (itG N m ft n w).2 b | none => (itG N m ft n w).1 = 0 := by
  intro L
  induction L with
  | nil =>
    intro c w n hw hl
    cases n with
    | zero => exact ⟨rfl, hw⟩
    | succ n =>
      show (itG N m ft (n + 1) w).1 = 0
      unfold itG
      rw [goO_end hw hl]
  | cons d L ih =>
    intro c w n hw hl
    cases n with
    | zero => exact ⟨rfl, hw⟩
    | succ n =>
      obtain ⟨w', g1, g2⟩ := hl.1 w hw
      have := ih d w' n g2 hl.2
      have e : itG N m ft (n + 1) w = itG N m ft n w' := by
        conv => lhs; unfold itG
        rw [g1]
      rw [e]
      exact this
/-- the list of walls, from the walk's start on -/
theorem wl_top (hm1 : 1 ≤ m) (hm : m ≤ 3) (h2 : 2 ≤ N) (h6 : N ≤ 6) (b : Nat → Int32) : ∃ c L, wL N m N b = c :: L ∧ (∀ w0 : WS, wK w0 → WkP N ft N (xS N m ft w0) c) ∧ lnk (Sst N m ft) (c :: L) (Emx N m 0) ∧ (∀ d, d ∈ c :: L → isW N d) ∧ (c :: L).length ≤ 16807 := by
  have hb : bdd m (N - N) b := fun i hi => by omega
  have hf : fe m N (rsB b (N - N)) := by
    rw [Nat.sub_self]
    have e : (rsB b 0).toInt = 1 := rfl
    unfold fe
    rw [e]
    have : 1 * 1 ≤ m * N := Nat.mul_le_mul hm1 (by omega)
    omega
  obtain ⟨⟨L, i1⟩, i2, i3⟩ := wl_main (ft := ft) hm1 hm h6 N (Nat.le_refl _) b hb hf
  rw [Nat.sub_self] at i1 i3
  rw [i1] at i2 i3
  refine ⟨_, L, i1, fun w0 hw => ?_, i3, fun d hd => (isW_rs hm (i2 d hd).2.1).mpr (i2 d hd).2.2, ?_⟩
  · refine WkP.fil N 0 _ b (by omega) ⟨fun i hi => by omega, fun q hq => ?_⟩
    obtain rfl : q = 0 := by omega
    exact ⟨(show upd w0.2.1 0 (nI 1) 0 = nI 1 from upd_s), hw.1, fun j _ _ => hw.2 j⟩
  · rw [← i1]
    obtain ⟨k, rfl⟩ : ∃ k, N = k + 1 := ⟨N - 1, by omega⟩
    have := wL_len (m := m) hm h6 k (Nat.le_refl _) b hb
    have h7 : 7 ^ k ≤ 7 ^ 5 := Nat.pow_le_pow_right (by decide) (by omega)
    omega
theorem foldl_c {α β : Type} {g h : β → α → β} : ∀ (L : List α) (s : β), (∀ s a, a ∈ L → g s a = h s a) → L.foldl g s = L.foldl h s
  | [], _, _ => rfl
  | a :: L, s, e => by
    show L.foldl g (g s a) = L.foldl h (h s a)
    rw [e s a List.mem_cons_self]
    exact foldl_c L _ (fun s b hb => e s b (List.mem_cons_of_mem _ hb))
theorem r_walls (hm1 : 1 ≤ m) (hm : m ≤ 3) (h2 : 2 ≤ N) (h6 : N ≤ 6) (hF : FR N ft f) {w0 : WS} (hw : wK w0) {b : Nat → Int32} : (xWl N m ft 16807 (xS N m ft w0) (nI 0, nI 0, nI 0, -2, nI 0, nI 0)).2.2 = mWl N m f b := by
  obtain ⟨c, L, i1, i2, i3, i4, i5⟩ := wl_top (ft := ft) hm1 hm h2 h6 b
  rw [xWl_fold L c _ _ 16807 i5 (i2 w0 hw) i3]
  unfold mWl
  rw [fld_wL (f := mWl1 N f) (g := fun s b => wlS (mVa N b f) s) hm1 hm h6 (fun b s => rfl) N (Nat.le_refl _) b _ (fun i hi => by omega), if_pos (by
    rw [Nat.sub_self]
    have e : (rsB b 0).toInt = 1 := rfl
    unfold fe
    rw [e]
    have : 1 * 1 ≤ m * N := Nat.mul_le_mul hm1 (by omega)
    omega), i1]
  show L.foldl _ (wlS (fvB N ft c N) _) = L.foldl _ (wlS (mVa N c f) _)
  rw [fvB_val hF]
  exact foldl_c L _ (fun s d _ => by rw [fvB_val hF])
def gFi (s : IF) (b : Nat → Int32) : IF := match s.2 with
  | some _ => s
  | none => if s.1 = 0 then (s.1, some b) else (s.1 + Int32.ofInt (-1), none)
theorem gFi_some : ∀ (L : List (Nat → Int32)) (s : IF) (r : Nat → Int32), s.2 = some r → (L.foldl gFi s).2 = some r := by
  intro L
  induction L with
  | nil => intro s r h; exact h
  | cons b L ih =>
    intro s r h
    refine ih _ r ?_
    unfold gFi
    rw [h]
    exact h
theorem gFi_nth : ∀ (L : List (Nat → Int32)) (n : Nat), n < 2 ^ 31 → (L.foldl gFi (nI n, none)).2 = L[n]? := by
  intro L
  induction L with
  | nil => intro n _; rfl
  | cons b L ih =>
    intro n hn
    cases n with
    | zero =>
      show (L.foldl gFi (gFi (nI 0, none) b)).2 = some b
      exact gFi_some L _ b rfl
    | succ n =>
      show (L.foldl gFi (gFi (nI (n + 1), none) b)).2 = L[n]?
      have e : gFi (nI (n + 1), none) b = (nI n, none) := by
        show (if nI (n + 1) = 0 then _ else _) = _
        rw [if_neg (nI_ne0 (by omega) hn)]
        have : nI (n + 1) + Int32.ofInt (-1) = nI n := by
          rw [← nI_add, show nI 1 = (1 : Int32) from rfl, show Int32.ofInt (-1) = (-1 : Int32) from rfl]
          grind
        rw [this]
      rw [e]
      exact ih n (by omega)
theorem r_find (hm1 : 1 ≤ m) (hm : m ≤ 3) (h2 : 2 ≤ N) (h6 : N ≤ 6) {b : Nat → Int32} {n : Nat} (hn : n < 2 ^ 31) {w0 : WS} (hw : wK w0) : match (mFi N m b (nI n)).2 with | some r => (xNth N m ft w0 n).1 = 1 ∧ WkP N ft N (xNth N m ft w0 n).2 r ∧ isW N r | none => (xNth N m ft w0 n).1 = 0 := by
  obtain ⟨c, L, i1, i2, i3, i4, i5⟩ := wl_top (ft := ft) hm1 hm h2 h6 b
  have e : (mFi N m b (nI n)).2 = (c :: L)[n]? := by
    unfold mFi
    rw [fld_wL (f := mFi1 N) (g := gFi) hm1 hm h6 (fun b s => by
      unfold mFi1 gFi
      cases s.2 with
      | some r => dsimp only; split <;> rfl
      | none => rfl) N (Nat.le_refl _) b _ (fun i hi => by omega), if_pos (by
      rw [Nat.sub_self]
      have e : (rsB b 0).toInt = 1 := rfl
      unfold fe
      rw [e]
      have : 1 * 1 ≤ m * N := Nat.mul_le_mul hm1 (by omega)
      omega), i1, gFi_nth _ _ hn]
  rw [e]
  have it := itG_nth L c (xS N m ft w0) (min n 16807) (i2 w0 hw) i3
  by_cases q : n < (c :: L).length
  · have em : min n 16807 = n := by omega
    rw [em, List.getElem?_eq_getElem q] at it
    rw [List.getElem?_eq_getElem q]
    unfold xNth
    rw [em]
    exact ⟨it.1, it.2, i4 _ (List.getElem_mem q)⟩
  · rw [List.getElem?_eq_none (by omega)] at it ⊢
    exact it
end WL3
section PR3
variable {G : GT} {x y w : Int32}
theorem pr_walls : PrI G mX9_walls mX10_walls 6 3 [.int x, .int y] := by
  intro σ ⟨A, B, C, I, H, T, D, z, a, tb, hX, hM, hR⟩
  obtain ⟨k1, k2, -, k4, k5⟩ := hR.1
  refine ConP.mono (x_walls hX) (fun v σ1 h => ?_)
  rcases h with ⟨hc, rfl, hX1, hh⟩ | ⟨m, rfl, h1, h3, hy, w0, fa, hw, rfl, hX1, hh⟩
  · refine stI hh hM (ConP.mono (m_walls k1 k2) (fun v' σ2 h' => ?_))
    rcases h' with ⟨_, h'⟩ | ⟨m, rfl, h1, h3, hy, _⟩
    · exact fiI h' hX1 rfl rfl rfl hR
    · exact absurd ⟨by rw [nI_e (by omega)]; omega, hy⟩ hc
  · refine stI hh hM (ConP.mono (m_walls k1 k2) (fun v' σ2 h' => ?_))
    rcases h' with ⟨q, _⟩ | ⟨m', e, _, _, _, h'⟩
    · exact absurd ⟨by rw [nI_e (by omega)]; omega, hy⟩ q
    · have := nI_inj6 (by omega) (by omega) e
      subst this
      refine fiI h' hX1 ?_ rfl rfl (hR.free (fun q x y => up_n (by omega)) rfl rfl)
      rw [r_walls h1 h3 k1 k2 (k5.cpy k2) hw]
theorem pr_wall : PrI G mX9_wall mX10_wall 7 4 [.int x, .int y, .int w] := by
  intro σ ⟨A, B, C, I, H, T, D, z, a, tb, hX, hM, hR⟩
  obtain ⟨k1, k2, -, k4, k5⟩ := hR.1
  refine ConP.mono (x_wall hX) (fun v σ1 h => ?_)
  rcases h with ⟨hc, rfl, hX1, hh⟩ | ⟨m, i, rfl, h1, h3, rfl, hi, hy, w0, fa, hw, rfl, hX1, hh⟩
  · refine stI hh hM (ConP.mono (m_wall k1 k2) (fun v' σ2 h' => ?_))
    rcases h' with ⟨_, h'⟩ | ⟨m, i, rfl, h1, h3, rfl, hi, hy, _⟩
    · exact fiI h' hX1 rfl rfl rfl hR
    · exact absurd ⟨by rw [nI_e (by omega)]; omega, by rw [nI_e (by omega)]; omega, hy⟩ hc
  · refine stI hh hM (ConP.mono (m_wall k1 k2) (fun v' σ2 h' => ?_))
    rcases h' with ⟨q, _⟩ | ⟨m', i', e, _, _, e2, _, _, h'⟩
    · exact absurd ⟨by rw [nI_e (by omega)]; omega, by rw [nI_e (by omega)]; omega, hy⟩ q
    · have := nI_inj6 (by omega) (by omega) e
      subst this
      have := nI_inj6 (by omega) (by omega) e2
      subst this
      refine fiI h' hX1 ?_ rfl rfl (hR.free (fun q x y => up_n (by omega)) rfl rfl)
      have hb := y.toInt_lt
      obtain ⟨n, hn, rfl⟩ : ∃ n, n < 2 ^ 31 ∧ y = nI n := ⟨y.toInt.toNat, by omega, by rw [iEq, nI_e (by omega)]; omega⟩
      have f := r_find (ft := va_cpy A.2 fa 0 0 15) h1 h3 k1 k2 (b := a 98) hn hw
      rw [show (nI n).toInt.toNat = n by rw [nI_e hn]; omega]
      revert f
      cases (mFi A.1 m (a 98) (nI n)).2 with
      | some r =>
        intro f
        dsimp only
        rw [if_neg (by rw [f.1]; decide), f.2.1.1 i hi]
      | none =>
        intro f
        dsimp only
        rw [if_pos f]
theorem pr_holdWall : PrI G mX9_holdWall mX10_holdWall 7 4 [.int x, .int y, .int w] := by
  intro σ ⟨A, B, C, I, H, T, D, z, a, tb, hX, hM, hR⟩
  obtain ⟨k1, k2, -, k4, k5⟩ := hR.1
  refine ConP.mono (x_holdWall hX) (fun v σ1 h => ?_)
  rcases h with ⟨hc, rfl, hX1, hh⟩ | ⟨k, m, rfl, hk, rfl, h1, h3, hy, w0, fa, R, hw, hRR, h⟩
  · refine stI hh hM (ConP.mono (m_holdWall k1 k2) (fun v' σ2 h' => ?_))
    rcases h' with ⟨_, h'⟩ | ⟨k, m, rfl, hk, rfl, h1, h3, hy, _⟩
    · exact fiI h' hX1 rfl rfl rfl hR
    · exact absurd ⟨hIn hk, by rw [nI_e (by omega)]; omega, hy⟩ hc
  · have hb := w.toInt_lt
    obtain ⟨n, hn, rfl⟩ : ∃ n, n < 2 ^ 31 ∧ w = nI n := ⟨w.toInt.toNat, by omega, by rw [iEq, nI_e (by omega)]; omega⟩
    have f := r_find (ft := va_cpy A.2 fa 0 0 15) h1 h3 k1 k2 (b := a 98) hn hw
    rw [show (nI n).toInt.toNat = n by rw [nI_e hn]; omega] at hRR
    rw [← hRR] at f
    rcases h with ⟨hr, rfl, hX1, hh⟩ | ⟨hr, rfl, hX1, hh⟩
    · refine stI hh hM (ConP.mono (m_holdWall k1 k2) (fun v' σ2 h' => ?_))
      rcases h' with ⟨q, _⟩ | ⟨k', m', e, _, e2, _, _, _, h'⟩
      · exact absurd ⟨hIn hk, by rw [nI_e (by omega)]; omega, hy⟩ q
      · have := nI_inj6 (by omega) (by omega) e
        subst this
        have := nI_inj6 (by omega) (by omega) e2
        subst this
        rcases h' with ⟨_, h'⟩ | ⟨r, er, _⟩
        · exact fiI h' hX1 rfl rfl rfl (hR.free (fun q x y => up_n (by omega)) rfl rfl)
        · rw [er] at f
          rw [f.1] at hr
          exact absurd hr (by decide)
    · refine stI hh hM (ConP.mono (m_holdWall k1 k2) (fun v' σ2 h' => ?_))
      rcases h' with ⟨q, _⟩ | ⟨k', m', e, _, e2, _, _, _, h'⟩
      · exact absurd ⟨hIn hk, by rw [nI_e (by omega)]; omega, hy⟩ q
      · have := nI_inj6 (by omega) (by omega) e
        subst this
        have := nI_inj6 (by omega) (by omega) e2
        subst this
        rcases h' with ⟨er, _⟩ | ⟨r, er, h'⟩
        · rw [er] at f
          exact absurd f hr
        · rw [er] at f
          have d := hR.hw (g := H.2.2.2 k) (r' := r) hk f.2.1.1 (f.2.2.congr (fun p hp => (f.2.1.1 p hp).symm))
          exact fiI h' hX1 d.2 rfl rfl d.1
end PR3
