/-! the walk in the class; holders' refusals -/
def wK (w : WS) : Prop := w.2.2.1 0 = 0 ∧ ∀ j, w.2.2.2 0 j = 0
theorem car_K {N p : Nat} {ft : Nat → Int32} {w : WS} (h : wK w) : wK (car N ft p w) := by
  refine ⟨?_, ?_⟩
  · exact (show upd w.2.2.1 (p + 1) (w.2.2.1 p + w.1 p * w.2.2.2 p p) 0 = w.2.2.1 0 from if_neg (by omega)).trans h.1
  · intro j
    have e : (car N ft p w).2.2.2 0 = w.2.2.2 0 := by
      unfold car
      rfl
    rw [e]
    exact h.2 j
theorem fil_K {N m : Nat} {ft : Nat → Int32} : ∀ n p (w : WS), wK w → wK (upn n p (fil1 N m ft) w) := by
  intro n
  induction n with
  | zero => intro p w h; exact h
  | succ n ih => intro p w h; exact ih (p + 1) _ (car_K (show wK (upd w.1 p _, w.2) from h))
theorem goD_K {N m : Nat} {ft : Nat → Int32} {w w' : WS} (h : wK w) : ∀ k, goD N m ft w k = some w' → wK w' := by
  intro k
  induction k with
  | zero => intro e; cases e
  | succ k ih =>
    intro e
    unfold goD at e
    split at e
    · injection e with e
      rw [← e]
      exact fil_K _ _ _ (car_K (show wK (upd w.1 k _, w.2) from h))
    · exact ih e
theorem itG_K {N m : Nat} {ft : Nat → Int32} : ∀ n (w : WS), wK w → wK (itG N m ft n w).2 := by
  intro n
  induction n with
  | zero => intro w h; exact h
  | succ n ih =>
    intro w h
    unfold itG
    cases e : goO N m ft w with
    | none => exact h
    | some w' => exact ih w' (goD_K h _ e)
/-- the walk at its start -/
def xS (N m : Nat) (ft : Nat → Int32) (w : WS) : WS := fil N m ft 0 (w.1, upd w.2.1 0 (nI 1), w.2.2)
theorem xS_K {N m : Nat} {ft : Nat → Int32} {w : WS} (h : wK w) : wK (xS N m ft w) := fil_K _ _ _ (show wK (w.1, upd w.2.1 0 (nI 1), w.2.2) from h)
def xWl (N m : Nat) (ft : Nat → Int32) : Nat → WS → I6 → Int32 × WS × I6
  | 0, w, s => (1, w, s)
  | n + 1, w, s => match goO N m ft w with
    | none => (0, w, wlS (w.2.2.1 N) s)
    | some w' => xWl N m ft n w' (wlS (w.2.2.1 N) s)
section X5
variable {G : GT} {σ σ' : Sto} {A : XA} {B : XB} {C : XC} {I : XI} {H : XH} {T : XT}
theorem pW_pW {st st2 : Int32} {N m N2 m2 : Nat} {w w2 : WS} : putW G (putW G σ st N m w) st2 N2 m2 w2 = putW G σ st2 N2 m2 w2 := by
  funext q
  by_cases h : q < 48 ∨ q = 49 ∨ q = 50 ∨ q = 54 ∨ 60 < q
  · rw [pWn h, pWn h, pWn h]
  · have h2 : q = 48 ∨ q = 51 ∨ q = 52 ∨ q = 53 ∨ ∃ k, k < 6 ∧ q = 55 + k := by
      by_cases h3 : 55 ≤ q
      · exact Or.inr (Or.inr (Or.inr (Or.inr ⟨q - 55, by omega, by omega⟩)))
      · omega
    rcases h2 with h2 | h2 | h2 | h2 | ⟨k, hk, h2⟩
    · subst h2; rfl
    · subst h2; rfl
    · subst h2; rfl
    · subst h2; rfl
    · subst h2
      rw [pWr hk, pWr hk]
theorem isX.walk {M N m : Nat} {f : Nat → Int32} {st : Int32} {w : WS} (h : isX G σ A B C I H T) (h2 : 2 ≤ M) (h6 : M ≤ 6) (hw : wK w) : isX G (putW G (putT G σ 49 M f) st N m w) A B C I H T := by
  have n1 : ∀ q, q < 48 ∨ q = 54 ∨ 60 < q → putW G (putT G σ 49 M f) st N m w q = σ q := fun q hq => (pWn (by omega)).trans (putT_n (by omega) (by omega))
  refine h.scr (fun q a _ _ => n1 q (by omega)) ?_ ?_
  · obtain ⟨M0, g0, h3⟩ := h.2.2.1
    exact ⟨M0, g0, h3.loc (n1 _ (by decide)) (n1 _ (by decide))⟩
  · obtain ⟨⟨s1, hs1⟩, ⟨st0, N0, m0, w0, hw0, h54, ⟨M0, f0, hT⟩, -, -⟩, ⟨P, L, w3, hw3⟩, ⟨C', w4, hw4, h66⟩⟩ := h.2.2.2.2.2.2.2.2.2.2
    exact ⟨⟨s1, putSp.loc hs1 (n1 _ (by decide)) (n1 _ (by decide))⟩, ⟨st, N, m, w, pW_pW, (n1 _ (by decide)).trans h54, ⟨M, f, pW_T (putT_T hT h2 h6) (by decide)⟩, hw.1, hw.2⟩, ⟨P, L, w3, putS.loc hw3 (fun q a b => n1 q (by omega))⟩, ⟨C', w4, putR.loc hw4 (fun q a b => n1 q (by omega)), (n1 _ (by decide)).trans h66⟩⟩
theorem hi_walk {M N m : Nat} {f : Nat → Int32} {st : Int32} {w : WS} : hi σ (putW G (putT G σ 49 M f) st N m w) := fun q hq => (pWn (by omega)).trans (putT_n (by omega) (by omega))
/-- the walk starts -/
theorem x_wkStart {m : Nat} (h : isX G σ A B C I H T) : ∃ w0 fa, wK w0 ∧ (∃ e, σ 48 = ob 8 e) ∧ isT G (putT G σ 49 A.1 (va_cpy A.2 fa 0 0 15)) 49 A.1 (va_cpy A.2 fa 0 0 15) ∧ (putT G σ 49 A.1 (va_cpy A.2 fa 0 0 15)) 54 = aR G 5 6 (fun k => 55 + k) ∧ ConP G mX8_start 5 [.ref (adr G 48), .ref (adr G 1), .int (nI m)] σ (rV (putW G (putT G σ 49 A.1 (va_cpy A.2 fa 0 0 15)) 1 A.1 m (xS A.1 m (va_cpy A.2 fa 0 0 15) w0))) := by
  have x1 := h.2.1
  obtain ⟨⟨s1, hs1⟩, ⟨st0, N0, m0, w0, hw0, h54, ⟨M0, f0, hT⟩, z1, z2⟩, -⟩ := h.2.2.2.2.2.2.2.2.2.2
  have con := c_wkStart (G := G) (σ := σ) (st := st0) (M := N0) (m' := m0) (w := w0) (m := m) hT x1 (by decide) h54
  rw [hw0] at con
  exact ⟨w0, f0, ⟨z1, z2⟩, ⟨_, (congrFun hw0 48).symm.trans pW48⟩, putT_T hT x1.2.2.2.2.1 x1.2.2.2.2.2, (putT_n (by decide) (by decide)).trans h54, con⟩
theorem x_isWidth {x : Int32} : ConP G mX9_isWidth 1 [.int x] σ (rI (bI (1 ≤ x.toInt ∧ x.toInt ≤ 3)) σ) := by
  refine ConP.of rfl (Nat.le_of_ble_eq_true rfl) ?_
  refine k_iload_n (pc' := 1) dX9_isWidth_0 rfl ?_
  refine k_iconst (pc' := 2) (v := nI 1) dX9_isWidth_1 rfl ?_
  refine k_icmp_lt (tgt := 14) (pc' := 5) dX9_isWidth_2 rfl (fun c_2 => ?_) (fun c_2 => ?_)
  · rw [iLt, nI_e (by decide)] at c_2
    refine k_iconst (pc' := 15) (v := nI 0) dX9_isWidth_14 rfl ?_
    refine p_zreturn dX9_isWidth_15 rfl (by first | exact Or.inl rfl | exact Or.inr rfl) ?_
    exact ⟨by rw [bI_f (by omega)]; rfl, rfl⟩
  rw [iLt, nI_e (by decide)] at c_2
  refine k_iload_n (pc' := 6) dX9_isWidth_5 rfl ?_
  refine k_iconst (pc' := 7) (v := nI 3) dX9_isWidth_6 rfl ?_
  refine k_icmp_gt (tgt := 14) (pc' := 10) dX9_isWidth_7 rfl (fun c_7 => ?_) (fun c_7 => ?_)
  · rw [iLt, nI_e (by decide)] at c_7
    refine k_iconst (pc' := 15) (v := nI 0) dX9_isWidth_14 rfl ?_
    refine p_zreturn dX9_isWidth_15 rfl (by first | exact Or.inl rfl | exact Or.inr rfl) ?_
    exact ⟨by rw [bI_f (by omega)]; rfl, rfl⟩
  rw [iLt, nI_e (by decide)] at c_7
  refine k_iconst (pc' := 11) (v := nI 1) dX9_isWidth_10 rfl ?_
  refine k_goto (tgt := 15) dX9_isWidth_11 rfl ?_
  refine p_zreturn dX9_isWidth_15 rfl (by first | exact Or.inl rfl | exact Or.inr rfl) ?_
  exact ⟨by rw [bI_t (by omega)]; rfl, rfl⟩
theorem x_isHolder {x : Int32} : ConP G mX9_isHolder 1 [.int x] σ (rI (bI (0 ≤ x.toInt ∧ x.toInt ≤ 5)) σ) := by
  refine ConP.of rfl (Nat.le_of_ble_eq_true rfl) ?_
  refine k_iload_n (pc' := 1) dX9_isHolder_0 rfl ?_
  refine k_if_lt (tgt := 14) (pc' := 4) dX9_isHolder_1 rfl (fun c_1 => ?_) (fun c_1 => ?_)
  · rw [iLt, i0] at c_1
    refine k_iconst (pc' := 15) (v := nI 0) dX9_isHolder_14 rfl ?_
    refine p_zreturn dX9_isHolder_15 rfl (by first | exact Or.inl rfl | exact Or.inr rfl) ?_
    exact ⟨by rw [bI_f (by omega)]; rfl, rfl⟩
  rw [iLt, i0] at c_1
  refine k_iload_n (pc' := 5) dX9_isHolder_4 rfl ?_
  refine k_bipush (pc' := 7) (v := nI 6) dX9_isHolder_5 rfl ?_
  refine k_icmp_ge (tgt := 14) (pc' := 10) dX9_isHolder_7 rfl (fun c_7 => ?_) (fun c_7 => ?_)
  · rw [iLe, nI_e (by decide)] at c_7
    refine k_iconst (pc' := 15) (v := nI 0) dX9_isHolder_14 rfl ?_
    refine p_zreturn dX9_isHolder_15 rfl (by first | exact Or.inl rfl | exact Or.inr rfl) ?_
    exact ⟨by rw [bI_f (by omega)]; rfl, rfl⟩
  rw [iLe, nI_e (by decide)] at c_7
  refine k_iconst (pc' := 11) (v := nI 1) dX9_isHolder_10 rfl ?_
  refine k_goto (tgt := 15) dX9_isHolder_11 rfl ?_
  refine p_zreturn dX9_isHolder_15 rfl (by first | exact Or.inl rfl | exact Or.inr rfl) ?_
  exact ⟨by rw [bI_t (by omega)]; rfl, rfl⟩
/-- why there is nothing of a kind -/
def xRk (H : XH) (h k : Nat) : Int32 := if nI (H.1 h) = 0 then -11 else if nI (H.1 h) = nI k then 0 else -12
def xRw (A : XA) (H : XH) (h : Nat) : Int32 := if xRk H h 2 = 0 then (if nI (H.2.1 h) = nI A.1 then 0 else -5) else xRk H h 2
theorem x_rkBad {x : Int32} {k : Nat} (hx : ¬ (0 ≤ x.toInt ∧ x.toInt ≤ 5)) : ConP G mX9_refusalOfKind 2 [.ref (adr G 0), .int x, .int (nI k)] σ (rI (-1) σ) := by
  refine ConP.of rfl (Nat.le_of_ble_eq_true rfl) ?_
  refine k_iload_n (pc' := 1) dX9_refusalOfKind_0 rfl ?_
  refine p_sI (ν := mX9_isHolder) (pc' := 4) dX9_refusalOfKind_1 ml_RX9_206 mo_X9_isHolder ms_X9_isHolder (Nat.le_of_ble_eq_true rfl) rfl rfl (Nat.le_of_ble_eq_true rfl) (by decide) (x_isHolder) ?_
  refine k_if_ne (tgt := 9) (pc' := 7) dX9_refusalOfKind_4 rfl (fun zz_ => absurd (by rw [bI_eq]; exact hx) zz_) (fun _ => ?_)
  refine k_iconst (pc' := 8) (v := -1) dX9_refusalOfKind_7 rfl ?_
  refine p_ireturn dX9_refusalOfKind_8 rfl ?_
  exact ⟨rfl, rfl⟩
theorem x_rk (hX : isX G σ A B C I H T) {h k : Nat} (hh : h < 6) : ConP G mX9_refusalOfKind 2 [.ref (adr G 0), .int (nI h), .int (nI k)] σ (rI (xRk H h k) σ) := by
  obtain ⟨x0, x1, -, -, -, -, -, x31, xh, -⟩ := hX
  have y := xh h hh
  have e32 := y.2.1
  have hkW : kW = 104 := rfl
  have hb := nI_e (n := h) (by omega)
  unfold xRk
  refine ConP.of rfl (Nat.le_of_ble_eq_true rfl) ?_
  by_cases h1 : nI (H.1 h) = 0
  · rw [if_pos h1]
    refine k_iload_n (pc' := 1) dX9_refusalOfKind_0 rfl ?_
    refine p_sI (ν := mX9_isHolder) (pc' := 4) dX9_refusalOfKind_1 ml_RX9_206 mo_X9_isHolder ms_X9_isHolder (Nat.le_of_ble_eq_true rfl) rfl rfl (Nat.le_of_ble_eq_true rfl) (by decide) (x_isHolder) ?_
    refine k_if_ne (tgt := 9) (pc' := 7) dX9_refusalOfKind_4 rfl (fun _ => ?_) (fun zz_ => absurd zz_ (by rw [bI_eq, hb]; omega))
    refine k_aload_n (pc' := 10) dX9_refusalOfKind_9 rfl ?_
    refine p_get (pc' := 13) clX9 (Nat.le_of_ble_eq_true rfl) fl_RX9_47 dX9_refusalOfKind_10 (by first | assumption | decide | omega) (by assumption) rfl ?_
    refine k_iload_n (pc' := 14) dX9_refusalOfKind_13 rfl ?_
    refine p_aaldN (pc' := 15) (t0 := 4) dX9_refusalOfKind_14 rfl rfl (by first | assumption | decide | omega) (by assumption) (by decide) (by omega) ?_
    refine p_get (pc' := 18) clX1 (Nat.le_of_ble_eq_true rfl) fl_RX9_297 dX9_refusalOfKind_15 (by first | assumption | decide | omega) (by assumption) rfl ?_
    refine k_if_ne (tgt := 24) (pc' := 21) dX9_refusalOfKind_18 rfl (fun zz_ => absurd h1 zz_) (fun _ => ?_)
    refine k_bipush (pc' := 23) (v := -11) dX9_refusalOfKind_21 rfl ?_
    refine p_ireturn dX9_refusalOfKind_23 rfl ?_
    exact ⟨rfl, rfl⟩
  rw [if_neg h1]
  by_cases h2 : nI (H.1 h) = nI k
  · rw [if_pos h2]
    refine k_iload_n (pc' := 1) dX9_refusalOfKind_0 rfl ?_
    refine p_sI (ν := mX9_isHolder) (pc' := 4) dX9_refusalOfKind_1 ml_RX9_206 mo_X9_isHolder ms_X9_isHolder (Nat.le_of_ble_eq_true rfl) rfl rfl (Nat.le_of_ble_eq_true rfl) (by decide) (x_isHolder) ?_
    refine k_if_ne (tgt := 9) (pc' := 7) dX9_refusalOfKind_4 rfl (fun _ => ?_) (fun zz_ => absurd zz_ (by rw [bI_eq, hb]; omega))
    refine k_aload_n (pc' := 10) dX9_refusalOfKind_9 rfl ?_
    refine p_get (pc' := 13) clX9 (Nat.le_of_ble_eq_true rfl) fl_RX9_47 dX9_refusalOfKind_10 (by first | assumption | decide | omega) (by assumption) rfl ?_
    refine k_iload_n (pc' := 14) dX9_refusalOfKind_13 rfl ?_
    refine p_aaldN (pc' := 15) (t0 := 4) dX9_refusalOfKind_14 rfl rfl (by first | assumption | decide | omega) (by assumption) (by decide) (by omega) ?_
    refine p_get (pc' := 18) clX1 (Nat.le_of_ble_eq_true rfl) fl_RX9_297 dX9_refusalOfKind_15 (by first | assumption | decide | omega) (by assumption) rfl ?_
    refine k_if_ne (tgt := 24) (pc' := 21) dX9_refusalOfKind_18 rfl (fun _ => ?_) (fun zz_ => absurd zz_ h1)
    refine k_aload_n (pc' := 25) dX9_refusalOfKind_24 rfl ?_
    refine p_get (pc' := 28) clX9 (Nat.le_of_ble_eq_true rfl) fl_RX9_47 dX9_refusalOfKind_25 (by first | assumption | decide | omega) (by assumption) rfl ?_
    refine k_iload_n (pc' := 29) dX9_refusalOfKind_28 rfl ?_
    refine p_aaldN (pc' := 30) (t0 := 4) dX9_refusalOfKind_29 rfl rfl (by first | assumption | decide | omega) (by assumption) (by decide) (by omega) ?_
    refine p_get (pc' := 33) clX1 (Nat.le_of_ble_eq_true rfl) fl_RX9_297 dX9_refusalOfKind_30 (by first | assumption | decide | omega) (by assumption) rfl ?_
    refine k_iload_n (pc' := 34) dX9_refusalOfKind_33 rfl ?_
    refine k_icmp_ne (tgt := 41) (pc' := 37) dX9_refusalOfKind_34 rfl (fun zz_ => absurd h2 zz_) (fun _ => ?_)
    refine k_iconst (pc' := 38) (v := nI 0) dX9_refusalOfKind_37 rfl ?_
    refine k_goto (tgt := 43) dX9_refusalOfKind_38 rfl ?_
    refine p_ireturn dX9_refusalOfKind_43 rfl ?_
    exact ⟨rfl, rfl⟩
  · rw [if_neg h2]
    refine k_iload_n (pc' := 1) dX9_refusalOfKind_0 rfl ?_
    refine p_sI (ν := mX9_isHolder) (pc' := 4) dX9_refusalOfKind_1 ml_RX9_206 mo_X9_isHolder ms_X9_isHolder (Nat.le_of_ble_eq_true rfl) rfl rfl (Nat.le_of_ble_eq_true rfl) (by decide) (x_isHolder) ?_
    refine k_if_ne (tgt := 9) (pc' := 7) dX9_refusalOfKind_4 rfl (fun _ => ?_) (fun zz_ => absurd zz_ (by rw [bI_eq, hb]; omega))
    refine k_aload_n (pc' := 10) dX9_refusalOfKind_9 rfl ?_
    refine p_get (pc' := 13) clX9 (Nat.le_of_ble_eq_true rfl) fl_RX9_47 dX9_refusalOfKind_10 (by first | assumption | decide | omega) (by assumption) rfl ?_
    refine k_iload_n (pc' := 14) dX9_refusalOfKind_13 rfl ?_
    refine p_aaldN (pc' := 15) (t0 := 4) dX9_refusalOfKind_14 rfl rfl (by first | assumption | decide | omega) (by assumption) (by decide) (by omega) ?_
    refine p_get (pc' := 18) clX1 (Nat.le_of_ble_eq_true rfl) fl_RX9_297 dX9_refusalOfKind_15 (by first | assumption | decide | omega) (by assumption) rfl ?_
    refine k_if_ne (tgt := 24) (pc' := 21) dX9_refusalOfKind_18 rfl (fun _ => ?_) (fun zz_ => absurd zz_ h1)
    refine k_aload_n (pc' := 25) dX9_refusalOfKind_24 rfl ?_
    refine p_get (pc' := 28) clX9 (Nat.le_of_ble_eq_true rfl) fl_RX9_47 dX9_refusalOfKind_25 (by first | assumption | decide | omega) (by assumption) rfl ?_
    refine k_iload_n (pc' := 29) dX9_refusalOfKind_28 rfl ?_
    refine p_aaldN (pc' := 30) (t0 := 4) dX9_refusalOfKind_29 rfl rfl (by first | assumption | decide | omega) (by assumption) (by decide) (by omega) ?_
    refine p_get (pc' := 33) clX1 (Nat.le_of_ble_eq_true rfl) fl_RX9_297 dX9_refusalOfKind_30 (by first | assumption | decide | omega) (by assumption) rfl ?_
    refine k_iload_n (pc' := 34) dX9_refusalOfKind_33 rfl ?_
    refine k_icmp_ne (tgt := 41) (pc' := 37) dX9_refusalOfKind_34 rfl (fun _ => ?_) (fun zz_ => absurd zz_ h2)
    refine k_bipush (pc' := 43) (v := -12) dX9_refusalOfKind_41 rfl ?_
    refine p_ireturn dX9_refusalOfKind_43 rfl ?_
    exact ⟨rfl, rfl⟩
theorem x_rwBad {x : Int32} (hX : isX G σ A B C I H T) (hx : ¬ (0 ≤ x.toInt ∧ x.toInt ≤ 5)) : ConP G mX9_refusalOfWall 3 [.ref (adr G 0), .int x] σ (rI (-1) σ) := by
  have x0 := hX.1
  refine ConP.of rfl (Nat.le_of_ble_eq_true rfl) ?_
  refine k_aload_n (pc' := 1) dX9_refusalOfWall_0 rfl ?_
  refine k_iload_n (pc' := 2) dX9_refusalOfWall_1 rfl ?_
  refine k_iconst (pc' := 3) (v := nI 2) dX9_refusalOfWall_2 rfl ?_
  refine p_vI (ν := mX9_refusalOfKind) (pc' := 6) dX9_refusalOfWall_3 ml_RX9_216 mo_X9_refusalOfKind mv_X9_refusalOfKind clX9 (Nat.le_of_ble_eq_true rfl) rfl rfl (Nat.le_of_ble_eq_true rfl) (by first | assumption | decide | omega) (by assumption) (by decide) (x_rkBad hx) ?_
  refine k_istore_n (pc' := 7) dX9_refusalOfWall_6 (Nat.le_of_ble_eq_true rfl) rfl ?_
  refine k_iload_n (pc' := 8) dX9_refusalOfWall_7 rfl ?_
  refine k_if_eq (tgt := 13) (pc' := 11) dX9_refusalOfWall_8 rfl (fun zz_ => absurd zz_ (by decide)) (fun _ => ?_)
  refine k_iload_n (pc' := 12) dX9_refusalOfWall_11 rfl ?_
  refine p_ireturn dX9_refusalOfWall_12 rfl ?_
  exact ⟨rfl, rfl⟩
theorem x_rw (hX : isX G σ A B C I H T) {h : Nat} (hh : h < 6) : ConP G mX9_refusalOfWall 3 [.ref (adr G 0), .int (nI h)] σ (rI (xRw A H h) σ) := by
  have hX' := hX
  obtain ⟨x0, x1, -, -, -, -, -, x31, xh, -⟩ := hX
  have y := xh h hh
  have e1 := x1.2.2.1
  have e32 := y.2.1
  have hkW : kW = 104 := rfl
  unfold xRw
  refine ConP.of rfl (Nat.le_of_ble_eq_true rfl) ?_
  by_cases h1 : xRk H h 2 = 0
  · rw [if_pos h1]
    by_cases h2 : nI (H.2.1 h) = nI A.1
    · rw [if_pos h2]
      refine k_aload_n (pc' := 1) dX9_refusalOfWall_0 rfl ?_
      refine k_iload_n (pc' := 2) dX9_refusalOfWall_1 rfl ?_
      refine k_iconst (pc' := 3) (v := nI 2) dX9_refusalOfWall_2 rfl ?_
      refine p_vI (ν := mX9_refusalOfKind) (pc' := 6) dX9_refusalOfWall_3 ml_RX9_216 mo_X9_refusalOfKind mv_X9_refusalOfKind clX9 (Nat.le_of_ble_eq_true rfl) rfl rfl (Nat.le_of_ble_eq_true rfl) (by first | assumption | decide | omega) (by assumption) (by decide) (x_rk hX' hh) ?_
      refine k_istore_n (pc' := 7) dX9_refusalOfWall_6 (Nat.le_of_ble_eq_true rfl) rfl ?_
      refine k_iload_n (pc' := 8) dX9_refusalOfWall_7 rfl ?_
      refine k_if_eq (tgt := 13) (pc' := 11) dX9_refusalOfWall_8 rfl (fun _ => ?_) (fun zz_ => absurd h1 zz_)
      refine k_aload_n (pc' := 14) dX9_refusalOfWall_13 rfl ?_
      refine p_get (pc' := 17) clX9 (Nat.le_of_ble_eq_true rfl) fl_RX9_47 dX9_refusalOfWall_14 (by first | assumption | decide | omega) (by assumption) rfl ?_
      refine k_iload_n (pc' := 18) dX9_refusalOfWall_17 rfl ?_
      refine p_aaldN (pc' := 19) (t0 := 4) dX9_refusalOfWall_18 rfl rfl (by first | assumption | decide | omega) (by assumption) (by decide) (by omega) ?_
      refine p_get (pc' := 22) clX1 (Nat.le_of_ble_eq_true rfl) fl_RX9_301 dX9_refusalOfWall_19 (by first | assumption | decide | omega) (by assumption) rfl ?_
      refine k_aload_n (pc' := 23) dX9_refusalOfWall_22 rfl ?_
      refine p_get (pc' := 26) clX9 (Nat.le_of_ble_eq_true rfl) fl_RX9_12 dX9_refusalOfWall_23 (by first | assumption | decide | omega) (by assumption) rfl ?_
      refine p_get (pc' := 29) clX6 (Nat.le_of_ble_eq_true rfl) fl_RX9_87 dX9_refusalOfWall_26 (by first | assumption | decide | omega) (by assumption) rfl ?_
      refine k_icmp_ne (tgt := 36) (pc' := 32) dX9_refusalOfWall_29 rfl (fun zz_ => absurd h2 zz_) (fun _ => ?_)
      refine k_iconst (pc' := 33) (v := nI 0) dX9_refusalOfWall_32 rfl ?_
      refine k_goto (tgt := 38) dX9_refusalOfWall_33 rfl ?_
      refine p_ireturn dX9_refusalOfWall_38 rfl ?_
      exact ⟨rfl, rfl⟩
    · rw [if_neg h2]
      refine k_aload_n (pc' := 1) dX9_refusalOfWall_0 rfl ?_
      refine k_iload_n (pc' := 2) dX9_refusalOfWall_1 rfl ?_
      refine k_iconst (pc' := 3) (v := nI 2) dX9_refusalOfWall_2 rfl ?_
      refine p_vI (ν := mX9_refusalOfKind) (pc' := 6) dX9_refusalOfWall_3 ml_RX9_216 mo_X9_refusalOfKind mv_X9_refusalOfKind clX9 (Nat.le_of_ble_eq_true rfl) rfl rfl (Nat.le_of_ble_eq_true rfl) (by first | assumption | decide | omega) (by assumption) (by decide) (x_rk hX' hh) ?_
      refine k_istore_n (pc' := 7) dX9_refusalOfWall_6 (Nat.le_of_ble_eq_true rfl) rfl ?_
      refine k_iload_n (pc' := 8) dX9_refusalOfWall_7 rfl ?_
      refine k_if_eq (tgt := 13) (pc' := 11) dX9_refusalOfWall_8 rfl (fun _ => ?_) (fun zz_ => absurd h1 zz_)
      refine k_aload_n (pc' := 14) dX9_refusalOfWall_13 rfl ?_
      refine p_get (pc' := 17) clX9 (Nat.le_of_ble_eq_true rfl) fl_RX9_47 dX9_refusalOfWall_14 (by first | assumption | decide | omega) (by assumption) rfl ?_
      refine k_iload_n (pc' := 18) dX9_refusalOfWall_17 rfl ?_
      refine p_aaldN (pc' := 19) (t0 := 4) dX9_refusalOfWall_18 rfl rfl (by first | assumption | decide | omega) (by assumption) (by decide) (by omega) ?_
      refine p_get (pc' := 22) clX1 (Nat.le_of_ble_eq_true rfl) fl_RX9_301 dX9_refusalOfWall_19 (by first | assumption | decide | omega) (by assumption) rfl ?_
      refine k_aload_n (pc' := 23) dX9_refusalOfWall_22 rfl ?_
      refine p_get (pc' := 26) clX9 (Nat.le_of_ble_eq_true rfl) fl_RX9_12 dX9_refusalOfWall_23 (by first | assumption | decide | omega) (by assumption) rfl ?_
      refine p_get (pc' := 29) clX6 (Nat.le_of_ble_eq_true rfl) fl_RX9_87 dX9_refusalOfWall_26 (by first | assumption | decide | omega) (by assumption) rfl ?_
      refine k_icmp_ne (tgt := 36) (pc' := 32) dX9_refusalOfWall_29 rfl (fun _ => ?_) (fun zz_ => absurd zz_ h2)
      refine k_bipush (pc' := 38) (v := -5) dX9_refusalOfWall_36 rfl ?_
      refine p_ireturn dX9_refusalOfWall_38 rfl ?_
      exact ⟨rfl, rfl⟩
  · rw [if_neg h1]
    refine k_aload_n (pc' := 1) dX9_refusalOfWall_0 rfl ?_
    refine k_iload_n (pc' := 2) dX9_refusalOfWall_1 rfl ?_
    refine k_iconst (pc' := 3) (v := nI 2) dX9_refusalOfWall_2 rfl ?_
    refine p_vI (ν := mX9_refusalOfKind) (pc' := 6) dX9_refusalOfWall_3 ml_RX9_216 mo_X9_refusalOfKind mv_X9_refusalOfKind clX9 (Nat.le_of_ble_eq_true rfl) rfl rfl (Nat.le_of_ble_eq_true rfl) (by first | assumption | decide | omega) (by assumption) (by decide) (x_rk hX' hh) ?_
    refine k_istore_n (pc' := 7) dX9_refusalOfWall_6 (Nat.le_of_ble_eq_true rfl) rfl ?_
    refine k_iload_n (pc' := 8) dX9_refusalOfWall_7 rfl ?_
    refine k_if_eq (tgt := 13) (pc' := 11) dX9_refusalOfWall_8 rfl (fun zz_ => absurd zz_ h1) (fun _ => ?_)
    refine k_iload_n (pc' := 12) dX9_refusalOfWall_11 rfl ?_
    refine p_ireturn dX9_refusalOfWall_12 rfl ?_
    exact ⟨rfl, rfl⟩
end X5
