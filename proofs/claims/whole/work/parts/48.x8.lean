section X8
variable {G : GT} {σ σ' : Sto} {A : XA} {B : XB} {C : XC} {I : XI} {H : XH} {T : XT}
abbrev isRt (S : Nat) (nu : Nat → Int32) (x : Int32) : Prop := tIC S x nu = 0 ∨ tIC S x nu = nI 1
theorem x_isRoot {t kd op S : Nat} {nu : Nat → Int32} (h : isH G σ t kd op S nu) (hS : 1 ≤ S) {x : Int32} : ConP G mX9_isRoot 2 [.ref (adr G t), .int x] σ (rI (bI (isRt S nu x)) σ) := by
  have e := h.2.1
  have ht := h.1
  refine ConP.of rfl (Nat.le_of_ble_eq_true rfl) ?_
  refine k_aload_n (pc' := 1) dX9_isRoot_0 rfl ?_
  refine k_iload_n (pc' := 2) dX9_isRoot_1 rfl ?_
  refine p_vI (ν := mX1_togetherInCut) (pc' := 5) dX9_isRoot_2 ml_RX9_244 mo_X1_togetherInCut mv_X1_togetherInCut clX1 (Nat.le_of_ble_eq_true rfl) rfl rfl (Nat.le_of_ble_eq_true rfl) (by first | assumption | decide | omega) (by assumption) (by decide) (c_togetherInCut h hS x) ?_
  refine k_istore_n (pc' := 6) dX9_isRoot_5 (Nat.le_of_ble_eq_true rfl) rfl ?_
  by_cases h0 : tIC S x nu = 0
  · refine k_iload_n (pc' := 7) dX9_isRoot_6 rfl ?_
    refine k_if_eq (tgt := 15) (pc' := 10) dX9_isRoot_7 rfl (fun _ => ?_) (fun zz_ => absurd h0 zz_)
    refine k_iconst (pc' := 16) (v := nI 1) dX9_isRoot_15 rfl ?_
    refine k_goto (tgt := 20) dX9_isRoot_16 rfl ?_
    refine p_zreturn dX9_isRoot_20 rfl (by first | exact Or.inl rfl | exact Or.inr rfl) ?_
    exact ⟨by rw [bI_t (Or.inl h0)]; rfl, rfl⟩
  by_cases h1 : tIC S x nu = nI 1
  · refine k_iload_n (pc' := 7) dX9_isRoot_6 rfl ?_
    refine k_if_eq (tgt := 15) (pc' := 10) dX9_isRoot_7 rfl (fun zz_ => absurd zz_ h0) (fun _ => ?_)
    refine k_iload_n (pc' := 11) dX9_isRoot_10 rfl ?_
    refine k_iconst (pc' := 12) (v := nI 1) dX9_isRoot_11 rfl ?_
    refine k_icmp_ne (tgt := 19) (pc' := 15) dX9_isRoot_12 rfl (fun zz_ => absurd h1 zz_) (fun _ => ?_)
    refine k_iconst (pc' := 16) (v := nI 1) dX9_isRoot_15 rfl ?_
    refine k_goto (tgt := 20) dX9_isRoot_16 rfl ?_
    refine p_zreturn dX9_isRoot_20 rfl (by first | exact Or.inl rfl | exact Or.inr rfl) ?_
    exact ⟨by rw [bI_t (Or.inr h1)]; rfl, rfl⟩
  · refine k_iload_n (pc' := 7) dX9_isRoot_6 rfl ?_
    refine k_if_eq (tgt := 15) (pc' := 10) dX9_isRoot_7 rfl (fun zz_ => absurd zz_ h0) (fun _ => ?_)
    refine k_iload_n (pc' := 11) dX9_isRoot_10 rfl ?_
    refine k_iconst (pc' := 12) (v := nI 1) dX9_isRoot_11 rfl ?_
    refine k_icmp_ne (tgt := 19) (pc' := 15) dX9_isRoot_12 rfl (fun _ => ?_) (fun zz_ => absurd zz_ h1)
    refine k_iconst (pc' := 20) (v := nI 0) dX9_isRoot_19 rfl ?_
    refine p_zreturn dX9_isRoot_20 rfl (by first | exact Or.inl rfl | exact Or.inr rfl) ?_
    exact ⟨by rw [bI_f (fun q => q.elim h0 h1)]; rfl, rfl⟩
def xRc (N S : Nat) (nu : Nat → Int32) : Int32 := upn (lC N) 1 (fun s a => a + bI (isRt S nu (nI s))) (nI 0)
theorem x_rootCount (hX : isX G σ A B C I H T) {h : Nat} (hh : h < 6) (hS : 1 ≤ H.2.2.1 h) : ConP G mX9_rootCount 3 [.ref (adr G 0), .ref (adr G (32 + 2 * h))] σ (rI (xRc A.1 (H.2.2.1 h) (H.2.2.2 h)) σ) := by
  obtain ⟨x0, x1, -, -, -, -, -, x31, xh, -⟩ := hX
  have y := xh h hh
  have e1 := x1.2.2.1
  have hl := lC_le x1.2.2.2.2.1 x1.2.2.2.2.2
  have hkW : kW = 104 := rfl
  refine ConP.of rfl (Nat.le_of_ble_eq_true rfl) ?_
  refine k_iconst (pc' := 1) (v := nI 0) dX9_rootCount_0 rfl ?_
  refine k_istore_n (pc' := 2) dX9_rootCount_1 (Nat.le_of_ble_eq_true rfl) rfl ?_
  refine k_iconst (pc' := 3) (v := nI 1) dX9_rootCount_2 rfl ?_
  refine k_istore_n (pc' := 4) dX9_rootCount_3 (Nat.le_of_ble_eq_true rfl) rfl ?_
  refine loopU (fun s a => OkP G mX9_rootCount 3 (rI (xRc A.1 (H.2.2.1 h) (H.2.2.2 h)) σ) 4 [some (.ref (adr G 0)), some (.ref (adr G (32 + 2 * h))), some (.int a), some (.int (nI s))] [] σ) (fun s a => a + bI (isRt (H.2.2.1 h) (H.2.2.2 h) (nI s))) (lC A.1 + 1) 1 (lC A.1) (nI 0) (by omega) ?_ ?_
  · intro s a hs1 hs2 ih
    by_cases hr : isRt (H.2.2.1 h) (H.2.2.2 h) (nI s)
    · refine k_iload_n (pc' := 5) dX9_rootCount_4 rfl ?_
      refine k_aload_n (pc' := 6) dX9_rootCount_5 rfl ?_
      refine p_get (pc' := 9) clX9 (Nat.le_of_ble_eq_true rfl) fl_RX9_12 dX9_rootCount_6 (by first | assumption | decide | omega) (by assumption) rfl ?_
      refine p_vI (ν := mX6_lastCut) (pc' := 12) dX9_rootCount_9 ml_RX9_237 mo_X6_lastCut mv_X6_lastCut clX6 (Nat.le_of_ble_eq_true rfl) rfl rfl (Nat.le_of_ble_eq_true rfl) (by first | assumption | decide | omega) (by assumption) (by decide) (c_lastCut x1) ?_
      refine k_icmp_gt (tgt := 37) (pc' := 15) dX9_rootCount_12 rfl (fun zz_ => absurd zz_ (nI_nlt (by omega) (by omega))) (fun _ => ?_)
      refine k_iload_n (pc' := 16) dX9_rootCount_15 rfl ?_
      refine k_aload_n (pc' := 17) dX9_rootCount_16 rfl ?_
      refine k_iload_n (pc' := 18) dX9_rootCount_17 rfl ?_
      refine p_sI (ν := mX9_isRoot) (pc' := 21) dX9_rootCount_18 ml_RX9_240 mo_X9_isRoot ms_X9_isRoot (Nat.le_of_ble_eq_true rfl) rfl rfl (Nat.le_of_ble_eq_true rfl) (by decide) (x_isRoot y hS) ?_
      refine k_if_eq (tgt := 28) (pc' := 24) dX9_rootCount_21 rfl (fun zz_ => absurd zz_ (by rw [bI_eq]; exact fun q => q hr)) (fun _ => ?_)
      refine k_iconst (pc' := 25) (v := nI 1) dX9_rootCount_24 rfl ?_
      refine k_goto (tgt := 29) dX9_rootCount_25 rfl ?_
      refine k_iadd (pc' := 30) (v := a + nI 1) dX9_rootCount_29 rfl ?_
      refine k_istore_n (pc' := 31) dX9_rootCount_30 (Nat.le_of_ble_eq_true rfl) rfl ?_
      refine k_iinc (pc' := 34) (v := nI (s + 1)) dX9_rootCount_31 rfl (nI_inc _) (Nat.le_of_ble_eq_true rfl) rfl ?_
      refine k_goto (tgt := 4) dX9_rootCount_34 rfl ?_
      rw [bI_t hr] at ih
      exact ih
    · refine k_iload_n (pc' := 5) dX9_rootCount_4 rfl ?_
      refine k_aload_n (pc' := 6) dX9_rootCount_5 rfl ?_
      refine p_get (pc' := 9) clX9 (Nat.le_of_ble_eq_true rfl) fl_RX9_12 dX9_rootCount_6 (by first | assumption | decide | omega) (by assumption) rfl ?_
      refine p_vI (ν := mX6_lastCut) (pc' := 12) dX9_rootCount_9 ml_RX9_237 mo_X6_lastCut mv_X6_lastCut clX6 (Nat.le_of_ble_eq_true rfl) rfl rfl (Nat.le_of_ble_eq_true rfl) (by first | assumption | decide | omega) (by assumption) (by decide) (c_lastCut x1) ?_
      refine k_icmp_gt (tgt := 37) (pc' := 15) dX9_rootCount_12 rfl (fun zz_ => absurd zz_ (nI_nlt (by omega) (by omega))) (fun _ => ?_)
      refine k_iload_n (pc' := 16) dX9_rootCount_15 rfl ?_
      refine k_aload_n (pc' := 17) dX9_rootCount_16 rfl ?_
      refine k_iload_n (pc' := 18) dX9_rootCount_17 rfl ?_
      refine p_sI (ν := mX9_isRoot) (pc' := 21) dX9_rootCount_18 ml_RX9_240 mo_X9_isRoot ms_X9_isRoot (Nat.le_of_ble_eq_true rfl) rfl rfl (Nat.le_of_ble_eq_true rfl) (by decide) (x_isRoot y hS) ?_
      refine k_if_eq (tgt := 28) (pc' := 24) dX9_rootCount_21 rfl (fun _ => ?_) (fun zz_ => absurd (by rw [bI_eq]; exact hr) zz_)
      refine k_iconst (pc' := 29) (v := nI 0) dX9_rootCount_28 rfl ?_
      refine k_iadd (pc' := 30) (v := a + nI 0) dX9_rootCount_29 rfl ?_
      refine k_istore_n (pc' := 31) dX9_rootCount_30 (Nat.le_of_ble_eq_true rfl) rfl ?_
      refine k_iinc (pc' := 34) (v := nI (s + 1)) dX9_rootCount_31 rfl (nI_inc _) (Nat.le_of_ble_eq_true rfl) rfl ?_
      refine k_goto (tgt := 4) dX9_rootCount_34 rfl ?_
      rw [bI_f hr] at ih
      exact ih
  · refine k_iload_n (pc' := 5) dX9_rootCount_4 rfl ?_
    refine k_aload_n (pc' := 6) dX9_rootCount_5 rfl ?_
    refine p_get (pc' := 9) clX9 (Nat.le_of_ble_eq_true rfl) fl_RX9_12 dX9_rootCount_6 (by first | assumption | decide | omega) (by assumption) rfl ?_
    refine p_vI (ν := mX6_lastCut) (pc' := 12) dX9_rootCount_9 ml_RX9_237 mo_X6_lastCut mv_X6_lastCut clX6 (Nat.le_of_ble_eq_true rfl) rfl rfl (Nat.le_of_ble_eq_true rfl) (by first | assumption | decide | omega) (by assumption) (by decide) (c_lastCut x1) ?_
    refine k_icmp_gt (tgt := 37) (pc' := 15) dX9_rootCount_12 rfl (fun _ => ?_) (fun zz_ => absurd (nI_lt (by omega) (by omega)) zz_)
    refine k_iload_n (pc' := 38) dX9_rootCount_37 rfl ?_
    refine p_ireturn dX9_rootCount_38 rfl ?_
    exact ⟨rfl, rfl⟩
/-- the ranks' part of the store -/
theorem pR_pR {C1 C2 : Nat} {w w2 : RS} : putR G (putR G σ C1 w) C2 w2 = putR G σ C2 w2 := by
  funext q
  by_cases h : q < 65 ∨ q = 66 ∨ 83 < q
  · rw [pRn h, pRn h, pRn h]
  · have h2 : q = 65 ∨ q = 82 ∨ q = 83 ∨ ∃ k, k < 15 ∧ q = 67 + k := by
      by_cases h3 : 67 ≤ q ∧ q < 82
      · exact Or.inr (Or.inr (Or.inr ⟨q - 67, by omega, by omega⟩))
      · omega
    rcases h2 with h2 | h2 | h2 | ⟨k, hk, h2⟩
    · subst h2; rfl
    · subst h2; rfl
    · subst h2; rfl
    · subst h2
      rw [pRr hk, pRr hk]
theorem isX.rank {C1 : Nat} {w : RS} (h : isX G σ A B C I H T) : isX G (putR G σ C1 w) A B C I H T := by
  have n1 : ∀ q, q < 65 ∨ q = 66 ∨ 83 < q → putR G σ C1 w q = σ q := fun q hq => pRn hq
  refine h.scr (fun q a _ _ => n1 q (by omega)) ?_ ?_
  · obtain ⟨M0, g0, h3⟩ := h.2.2.1
    exact ⟨M0, g0, h3.loc (n1 _ (by decide)) (n1 _ (by decide))⟩
  · obtain ⟨⟨s1, hs1⟩, ⟨st0, N0, m0, w0, hw0, h54, ⟨M0, f0, hT⟩, z1, z2⟩, ⟨P, L, w3, hw3⟩, ⟨C', w4, hw4, h66⟩⟩ := h.2.2.2.2.2.2.2.2.2.2
    exact ⟨⟨s1, putSp.loc hs1 (n1 _ (by decide)) (n1 _ (by decide))⟩, ⟨st0, N0, m0, w0, putW.loc hw0 (fun q a b => n1 q (by omega)), (n1 _ (by decide)).trans h54, ⟨M0, f0, hT.loc (n1 _ (by decide)) (n1 _ (by decide))⟩, z1, z2⟩, ⟨P, L, w3, putS.loc hw3 (fun q a b => n1 q (by omega))⟩, ⟨C1, w, pR_pR, (n1 _ (by decide)).trans h66⟩⟩
theorem hi_rank {C1 : Nat} {w : RS} : hi σ (putR G σ C1 w) := fun q hq => pRn (by omega)
theorem adS_rk {C : Nat} : ∀ n c (w : RS), (adS C n c w).2.2.2 ≤ w.2.2.2 + 1 := by
  intro n
  induction n with
  | zero => intro c w; exact Nat.le_succ _
  | succ n ih =>
    intro c w
    unfold adS
    split
    · exact ih _ _
    · split
      · exact Nat.le_refl _
      · exact ih _ _
def xRr1 (N S : Nat) (nu : Nat → Int32) (s : Nat) (w : RS) : RS := if isRt S nu (nI s) then adB (pN N) (pA N (nI s)) w else w
def xRr (N S : Nat) (nu : Nat → Int32) (w : RS) : RS := upn (lC N) 1 (xRr1 N S nu) (w.1, w.2.1, zf 15 w.2.2.1, 0)
theorem x_rootRank (hX : isX G σ A B C I H T) {h : Nat} (hh : h < 6) (hS : 1 ≤ H.2.2.1 h) : ConP G mX9_rootRank 4 [.ref (adr G 0), .ref (adr G (32 + 2 * h))] σ (fun v σ' => ∃ w0, xI G σ (nI (xRr A.1 (H.2.2.1 h) (H.2.2.2 h) w0).2.2.2) A B C I H T v σ' ∧ (xRr A.1 (H.2.2.1 h) (H.2.2.2 h) w0).2.2.2 ≤ 31) := by
  have hX0 := hX
  obtain ⟨x0, x1, -, -, -, -, -, x31, xh, -, xs⟩ := hX
  have y := xh h hh
  have e1 := x1.2.2.1
  have hN6 := x1.2.2.2.2.2
  have hl := lC_le x1.2.2.2.2.1 hN6
  have hpn := pN_le hN6
  have hkW : kW = 104 := rfl
  obtain ⟨-, -, -, ⟨C0, w0, hw0, h66⟩⟩ := xs
  have e65 : σ 65 = _ := (congrFun hw0 65).symm.trans pR65
  have con := c_rkStart (G := G) (σ := σ) (C := C0) (w := w0) (C2 := pN A.1)
  rw [hw0] at con
  refine ConP.of rfl (Nat.le_of_ble_eq_true rfl) ?_
  refine k_aload_n (pc' := 1) dX9_rootRank_0 rfl ?_
  refine p_get (pc' := 4) clX9 (Nat.le_of_ble_eq_true rfl) fl_RX9_82 dX9_rootRank_1 (by first | assumption | decide | omega) (by assumption) rfl ?_
  refine k_aload_n (pc' := 5) dX9_rootRank_4 rfl ?_
  refine p_get (pc' := 8) clX9 (Nat.le_of_ble_eq_true rfl) fl_RX9_12 dX9_rootRank_5 (by first | assumption | decide | omega) (by assumption) rfl ?_
  refine p_vI (ν := mX6_pairCount) (pc' := 11) dX9_rootRank_8 ml_RX9_132 mo_X6_pairCount mv_X6_pairCount clX6 (Nat.le_of_ble_eq_true rfl) rfl rfl (Nat.le_of_ble_eq_true rfl) (by first | assumption | decide | omega) (by assumption) (by decide) (c_pairCount x1) ?_
  refine p_vV (ν := mX3_start) (pc' := 14) dX9_rootRank_11 ml_RX9_250 mo_X3_start mv_X3_start clX3 (Nat.le_of_ble_eq_true rfl) rfl rfl (Nat.le_of_ble_eq_true rfl) (by first | assumption | decide | omega) e65 (by decide) (con) ?_
  refine k_iconst (pc' := 15) (v := nI 1) dX9_rootRank_14 rfl ?_
  refine k_istore_n (pc' := 16) dX9_rootRank_15 (Nat.le_of_ble_eq_true rfl) rfl ?_
  have key := loopU (fun s (w : RS) => w.2.2.2 < s → OkP G mX9_rootRank 4 (fun v σ' => ∃ w0, xI G σ (nI (xRr A.1 (H.2.2.1 h) (H.2.2.2 h) w0).2.2.2) A B C I H T v σ' ∧ (xRr A.1 (H.2.2.1 h) (H.2.2.2 h) w0).2.2.2 ≤ 31) 16 [some (.ref (adr G 0)), some (.ref (adr G (32 + 2 * h))), some (.int (nI s))] [] (putR G σ (pN A.1) w)) (xRr1 A.1 (H.2.2.1 h) (H.2.2.2 h)) (lC A.1 + 1) 1 (lC A.1) (w0.1, w0.2.1, zf 15 w0.2.2.1, 0) (by omega) ?_ ?_
  · exact key Nat.zero_lt_one
  · intro s w hs1 hs2 ih hw
    have zX : isX G (putR G σ (pN A.1) w) A B C I H T := hX0.rank
    have z0 := zX.1
    have z1 := zX.2.1
    have f1 := z1.2.2.1
    have zh := zX.2.2.2.2.2.2.2.2.1 h hh
    by_cases hr : isRt (H.2.2.1 h) (H.2.2.2 h) (nI s)
    · rw [show xRr1 A.1 (H.2.2.1 h) (H.2.2.2 h) s w = adB (pN A.1) (pA A.1 (nI s)) w from if_pos hr] at ih
      refine k_iload_n (pc' := 17) dX9_rootRank_16 rfl ?_
      refine k_aload_n (pc' := 18) dX9_rootRank_17 rfl ?_
      refine p_get (pc' := 21) clX9 (Nat.le_of_ble_eq_true rfl) fl_RX9_12 dX9_rootRank_18 (by first | assumption | decide | omega) (by assumption) rfl ?_
      refine p_vI (ν := mX6_lastCut) (pc' := 24) dX9_rootRank_21 ml_RX9_237 mo_X6_lastCut mv_X6_lastCut clX6 (Nat.le_of_ble_eq_true rfl) rfl rfl (Nat.le_of_ble_eq_true rfl) (by first | assumption | decide | omega) (by assumption) (by decide) (c_lastCut z1) ?_
      refine k_icmp_gt (tgt := 56) (pc' := 27) dX9_rootRank_24 rfl (fun zz_ => absurd zz_ (nI_nlt (by omega) (by omega))) (fun _ => ?_)
      refine k_aload_n (pc' := 28) dX9_rootRank_27 rfl ?_
      refine k_iload_n (pc' := 29) dX9_rootRank_28 rfl ?_
      refine p_sI (ν := mX9_isRoot) (pc' := 32) dX9_rootRank_29 ml_RX9_240 mo_X9_isRoot ms_X9_isRoot (Nat.le_of_ble_eq_true rfl) rfl rfl (Nat.le_of_ble_eq_true rfl) (by decide) (x_isRoot zh hS) ?_
      refine k_if_eq (tgt := 50) (pc' := 35) dX9_rootRank_32 rfl (fun zz_ => absurd zz_ (by rw [bI_eq]; exact fun q => q hr)) (fun _ => ?_)
      refine k_aload_n (pc' := 36) dX9_rootRank_35 rfl ?_
      refine p_get (pc' := 39) clX9 (Nat.le_of_ble_eq_true rfl) fl_RX9_82 dX9_rootRank_36 (by first | assumption | decide | omega) (by assumption) rfl ?_
      refine k_aload_n (pc' := 40) dX9_rootRank_39 rfl ?_
      refine p_get (pc' := 43) clX9 (Nat.le_of_ble_eq_true rfl) fl_RX9_12 dX9_rootRank_40 (by first | assumption | decide | omega) (by assumption) rfl ?_
      refine k_iload_n (pc' := 44) dX9_rootRank_43 rfl ?_
      refine p_vI (ν := mX6_pairsApart) (pc' := 47) dX9_rootRank_44 ml_RX9_128 mo_X6_pairsApart mv_X6_pairsApart clX6 (Nat.le_of_ble_eq_true rfl) rfl rfl (Nat.le_of_ble_eq_true rfl) (by first | assumption | decide | omega) (by assumption) (by decide) (c_pairsApart z1 (nI s)) ?_
      refine p_vV (ν := mX3_addBits) (pc' := 50) dX9_rootRank_47 ml_RX9_252 mo_X3_addBits mv_X3_addBits clX3 (Nat.le_of_ble_eq_true rfl) rfl rfl (Nat.le_of_ble_eq_true rfl) (by first | assumption | decide | omega) pR65 (by decide) (c_addBits h66 hpn (by omega)) ?_
      refine k_iinc (pc' := 53) (v := nI (s + 1)) dX9_rootRank_50 rfl (nI_inc _) (Nat.le_of_ble_eq_true rfl) rfl ?_
      refine k_goto (tgt := 16) dX9_rootRank_53 rfl ?_
      refine ih ?_
      have := adS_rk (C := pN A.1) (pN A.1) 0 (w.1, frB (pN A.1) (pA A.1 (nI s)) w.2.1, w.2.2)
      show (adS (pN A.1) (pN A.1) 0 (w.1, frB (pN A.1) (pA A.1 (nI s)) w.2.1, w.2.2)).2.2.2 < s + 1
      dsimp only at this
      omega
    · rw [show xRr1 A.1 (H.2.2.1 h) (H.2.2.2 h) s w = w from if_neg hr] at ih
      refine k_iload_n (pc' := 17) dX9_rootRank_16 rfl ?_
      refine k_aload_n (pc' := 18) dX9_rootRank_17 rfl ?_
      refine p_get (pc' := 21) clX9 (Nat.le_of_ble_eq_true rfl) fl_RX9_12 dX9_rootRank_18 (by first | assumption | decide | omega) (by assumption) rfl ?_
      refine p_vI (ν := mX6_lastCut) (pc' := 24) dX9_rootRank_21 ml_RX9_237 mo_X6_lastCut mv_X6_lastCut clX6 (Nat.le_of_ble_eq_true rfl) rfl rfl (Nat.le_of_ble_eq_true rfl) (by first | assumption | decide | omega) (by assumption) (by decide) (c_lastCut z1) ?_
      refine k_icmp_gt (tgt := 56) (pc' := 27) dX9_rootRank_24 rfl (fun zz_ => absurd zz_ (nI_nlt (by omega) (by omega))) (fun _ => ?_)
      refine k_aload_n (pc' := 28) dX9_rootRank_27 rfl ?_
      refine k_iload_n (pc' := 29) dX9_rootRank_28 rfl ?_
      refine p_sI (ν := mX9_isRoot) (pc' := 32) dX9_rootRank_29 ml_RX9_240 mo_X9_isRoot ms_X9_isRoot (Nat.le_of_ble_eq_true rfl) rfl rfl (Nat.le_of_ble_eq_true rfl) (by decide) (x_isRoot zh hS) ?_
      refine k_if_eq (tgt := 50) (pc' := 35) dX9_rootRank_32 rfl (fun _ => ?_) (fun zz_ => absurd (by rw [bI_eq]; exact hr) zz_)
      refine k_iinc (pc' := 53) (v := nI (s + 1)) dX9_rootRank_50 rfl (nI_inc _) (Nat.le_of_ble_eq_true rfl) rfl ?_
      refine k_goto (tgt := 16) dX9_rootRank_53 rfl ?_
      exact ih (by omega)
  · intro hw
    have zX : isX G (putR G σ (pN A.1) (upn (lC A.1) 1 (xRr1 A.1 (H.2.2.1 h) (H.2.2.2 h)) (w0.1, w0.2.1, zf 15 w0.2.2.1, 0))) A B C I H T := hX0.rank
    have z0 := zX.1
    have z1 := zX.2.1
    have f1 := z1.2.2.1
    refine k_iload_n (pc' := 17) dX9_rootRank_16 rfl ?_
    refine k_aload_n (pc' := 18) dX9_rootRank_17 rfl ?_
    refine p_get (pc' := 21) clX9 (Nat.le_of_ble_eq_true rfl) fl_RX9_12 dX9_rootRank_18 (by first | assumption | decide | omega) (by assumption) rfl ?_
    refine p_vI (ν := mX6_lastCut) (pc' := 24) dX9_rootRank_21 ml_RX9_237 mo_X6_lastCut mv_X6_lastCut clX6 (Nat.le_of_ble_eq_true rfl) rfl rfl (Nat.le_of_ble_eq_true rfl) (by first | assumption | decide | omega) (by assumption) (by decide) (c_lastCut z1) ?_
    refine k_icmp_gt (tgt := 56) (pc' := 27) dX9_rootRank_24 rfl (fun _ => ?_) (fun zz_ => absurd (nI_lt (by omega) (by omega)) zz_)
    refine k_aload_n (pc' := 57) dX9_rootRank_56 rfl ?_
    refine p_get (pc' := 60) clX9 (Nat.le_of_ble_eq_true rfl) fl_RX9_82 dX9_rootRank_57 (by first | assumption | decide | omega) (by assumption) rfl ?_
    refine p_get (pc' := 63) clX3 (Nat.le_of_ble_eq_true rfl) fl_RX9_255 dX9_rootRank_60 (by first | assumption | decide | omega) pR65 rfl ?_
    refine p_ireturn dX9_rootRank_63 rfl ?_
    exact ⟨w0, ⟨rfl, zX, hi_rank⟩, by show (upn (lC A.1) 1 (xRr1 A.1 (H.2.2.1 h) (H.2.2.2 h)) (w0.1, w0.2.1, zf 15 w0.2.2.1, 0)).2.2.2 ≤ 31; omega⟩
def xRf (S : Nat) (nu : Nat → Int32) (k : Int32) : Nat → Nat → Int32 → Option Nat
  | 0, _, _ => none
  | n + 1, s, a => if isRt S nu (nI s) then (if a = k then some s else xRf S nu k n (s + 1) (a + nI 1)) else xRf S nu k n (s + 1) a
theorem x_root (h : isX G σ A B C I H T) (hS : ∀ h, h < 6 → xRk H h 2 = 0 → 1 ≤ H.2.2.1 h) {x y : Int32} : ConP G mX9_root 4 [.ref (adr G 0), .int x, .int y] σ (fun v σ' => (¬ ((0 ≤ x.toInt ∧ x.toInt ≤ 5) ∧ 0 ≤ y.toInt) ∧ xI G σ (-1) A B C I H T v σ') ∨ ∃ h, x = nI h ∧ h < 6 ∧ 0 ≤ y.toInt ∧ ((¬ xRw A H h = 0 ∧ xI G σ (xRw A H h) A B C I H T v σ') ∨ (xRw A H h = 0 ∧ xI G σ (match xRf (H.2.2.1 h) (H.2.2.2 h) y (lC A.1) 1 (nI 0) with | some s => nI s | none => -2) A B C I H T v σ'))) := by
  have hX := h
  obtain ⟨x0, x1, -, -, -, -, -, x31, xh, -⟩ := h
  have e1 := x1.2.2.1
  have hN6 := x1.2.2.2.2.2
  have hl := lC_le x1.2.2.2.2.1 hN6
  have hkW : kW = 104 := rfl
  refine ConP.of rfl (Nat.le_of_ble_eq_true rfl) ?_
  refine k_iload_n (pc' := 1) dX9_root_0 rfl ?_
  refine p_sI (ν := mX9_isHolder) (pc' := 4) dX9_root_1 ml_RX9_206 mo_X9_isHolder ms_X9_isHolder (Nat.le_of_ble_eq_true rfl) rfl rfl (Nat.le_of_ble_eq_true rfl) (by decide) (x_isHolder) ?_
  refine k_if_eq (tgt := 11) (pc' := 7) dX9_root_4 rfl (fun c_4 => ?_) (fun c_4 => ?_)
  · rw [bI_eq] at c_4
    refine k_iconst (pc' := 12) (v := -1) dX9_root_11 rfl ?_
    refine p_ireturn dX9_root_12 rfl ?_
    exact Or.inl ⟨fun q => c_4 q.1, rfl, hX, hi.rfl'⟩
  rw [bI_ne] at c_4
  refine k_iload_n (pc' := 8) dX9_root_7 rfl ?_
  refine k_if_ge (tgt := 13) (pc' := 11) dX9_root_8 rfl (fun c_8 => ?_) (fun c_8 => ?_)
  rotate_left
  · rw [iLe, i0] at c_8
    refine k_iconst (pc' := 12) (v := -1) dX9_root_11 rfl ?_
    refine p_ireturn dX9_root_12 rfl ?_
    exact Or.inl ⟨fun q => c_8 q.2, rfl, hX, hi.rfl'⟩
  rw [iLe, i0] at c_8
  obtain ⟨h, hh, rfl⟩ := nI_in0 (n := 6) (x := x) (by omega) (by omega) (by decide)
  by_cases h1 : xRw A H h = 0
  rotate_left
  · refine k_aload_n (pc' := 14) dX9_root_13 rfl ?_
    refine k_iload_n (pc' := 15) dX9_root_14 rfl ?_
    refine p_vI (ν := mX9_refusalOfWall) (pc' := 18) dX9_root_15 ml_RX9_225 mo_X9_refusalOfWall mv_X9_refusalOfWall clX9 (Nat.le_of_ble_eq_true rfl) rfl rfl (Nat.le_of_ble_eq_true rfl) (by first | assumption | decide | omega) (by assumption) (by decide) (x_rw hX hh) ?_
    refine k_istore_n (pc' := 19) dX9_root_18 (Nat.le_of_ble_eq_true rfl) rfl ?_
    refine k_iload_n (pc' := 20) dX9_root_19 rfl ?_
    refine k_if_eq (tgt := 25) (pc' := 23) dX9_root_20 rfl (fun zz_ => absurd zz_ h1) (fun _ => ?_)
    refine k_iload_n (pc' := 24) dX9_root_23 rfl ?_
    refine p_ireturn dX9_root_24 rfl ?_
    exact Or.inr ⟨h, rfl, hh, c_8, Or.inl ⟨h1, rfl, hX, hi.rfl'⟩⟩
  have hs : 1 ≤ H.2.2.1 h := hS h hh (by
    by_cases h2 : xRk H h 2 = 0
    · exact h2
    · unfold xRw at h1
      rw [if_neg h2] at h1
      exact absurd h1 h2)
  have yh := xh h hh
  have e32 := yh.2.1
  generalize hQ : (fun v σ' => (¬ ((0 ≤ (nI h).toInt ∧ (nI h).toInt ≤ 5) ∧ 0 ≤ y.toInt) ∧ xI G σ (-1) A B C I H T v σ') ∨ ∃ h', nI h = nI h' ∧ h' < 6 ∧ 0 ≤ y.toInt ∧ ((¬ xRw A H h' = 0 ∧ xI G σ (xRw A H h') A B C I H T v σ') ∨ (xRw A H h' = 0 ∧ xI G σ (match xRf (H.2.2.1 h') (H.2.2.2 h') y (lC A.1) 1 (nI 0) with | some s => nI s | none => -2) A B C I H T v σ'))) = Qf
  refine k_aload_n (pc' := 14) dX9_root_13 rfl ?_
  refine k_iload_n (pc' := 15) dX9_root_14 rfl ?_
  refine p_vI (ν := mX9_refusalOfWall) (pc' := 18) dX9_root_15 ml_RX9_225 mo_X9_refusalOfWall mv_X9_refusalOfWall clX9 (Nat.le_of_ble_eq_true rfl) rfl rfl (Nat.le_of_ble_eq_true rfl) (by first | assumption | decide | omega) (by assumption) (by decide) (x_rw hX hh) ?_
  refine k_istore_n (pc' := 19) dX9_root_18 (Nat.le_of_ble_eq_true rfl) rfl ?_
  refine k_iload_n (pc' := 20) dX9_root_19 rfl ?_
  refine k_if_eq (tgt := 25) (pc' := 23) dX9_root_20 rfl (fun _ => ?_) (fun zz_ => absurd h1 zz_)
  refine k_iconst (pc' := 26) (v := nI 0) dX9_root_25 rfl ?_
  refine k_istore (pc' := 28) dX9_root_26 (Nat.le_of_ble_eq_true rfl) rfl ?_
  refine k_iconst (pc' := 29) (v := nI 1) dX9_root_28 rfl ?_
  refine k_istore (pc' := 31) dX9_root_29 (Nat.le_of_ble_eq_true rfl) rfl ?_
  obtain ⟨O, hO⟩ : ∃ O, O = xRf (H.2.2.1 h) (H.2.2.2 h) y (lC A.1) 1 (nI 0) := ⟨_, rfl⟩
  have main : ∀ n s a, s + n = lC A.1 + 1 → 1 ≤ s → xRf (H.2.2.1 h) (H.2.2.2 h) y n s a = O → OkP G mX9_root 4 Qf 31 [some (.ref (adr G 0)), some (.int (nI h)), some (.int y), some (.int (xRw A H h)), some (.int a), some (.int (nI s))] [] σ := by
    intro n
    induction n with
    | zero =>
      intro s a hsn hs1 hr
      refine k_iload (pc' := 33) dX9_root_31 rfl ?_
      refine k_aload_n (pc' := 34) dX9_root_33 rfl ?_
      refine p_get (pc' := 37) clX9 (Nat.le_of_ble_eq_true rfl) fl_RX9_12 dX9_root_34 (by first | assumption | decide | omega) (by assumption) rfl ?_
      refine p_vI (ν := mX6_lastCut) (pc' := 40) dX9_root_37 ml_RX9_237 mo_X6_lastCut mv_X6_lastCut clX6 (Nat.le_of_ble_eq_true rfl) rfl rfl (Nat.le_of_ble_eq_true rfl) (by first | assumption | decide | omega) (by assumption) (by decide) (c_lastCut x1) ?_
      refine k_icmp_gt (tgt := 75) (pc' := 43) dX9_root_40 rfl (fun _ => ?_) (fun zz_ => absurd (nI_lt (by omega) (by omega)) zz_)
      refine k_bipush (pc' := 77) (v := -2) dX9_root_75 rfl ?_
      refine p_ireturn dX9_root_77 rfl ?_
      rw [← hQ]
      refine Or.inr ⟨h, rfl, hh, c_8, Or.inr ⟨h1, ?_, hX, hi.rfl'⟩⟩
      rw [← hO, ← hr]
      rfl
    | succ n ih =>
      intro s a hsn hs1 hr
      unfold xRf at hr
      by_cases hr1 : isRt (H.2.2.1 h) (H.2.2.2 h) (nI s)
      · rw [if_pos hr1] at hr
        by_cases ha : a = y
        · rw [if_pos ha] at hr
          refine k_iload (pc' := 33) dX9_root_31 rfl ?_
          refine k_aload_n (pc' := 34) dX9_root_33 rfl ?_
          refine p_get (pc' := 37) clX9 (Nat.le_of_ble_eq_true rfl) fl_RX9_12 dX9_root_34 (by first | assumption | decide | omega) (by assumption) rfl ?_
          refine p_vI (ν := mX6_lastCut) (pc' := 40) dX9_root_37 ml_RX9_237 mo_X6_lastCut mv_X6_lastCut clX6 (Nat.le_of_ble_eq_true rfl) rfl rfl (Nat.le_of_ble_eq_true rfl) (by first | assumption | decide | omega) (by assumption) (by decide) (c_lastCut x1) ?_
          refine k_icmp_gt (tgt := 75) (pc' := 43) dX9_root_40 rfl (fun zz_ => absurd zz_ (nI_nlt (by omega) (by omega))) (fun _ => ?_)
          refine k_aload_n (pc' := 44) dX9_root_43 rfl ?_
          refine p_get (pc' := 47) clX9 (Nat.le_of_ble_eq_true rfl) fl_RX9_47 dX9_root_44 (by first | assumption | decide | omega) (by assumption) rfl ?_
          refine k_iload_n (pc' := 48) dX9_root_47 rfl ?_
          refine p_aaldN (pc' := 49) (t0 := 4) dX9_root_48 rfl rfl (by first | assumption | decide | omega) (by assumption) (by decide) (by omega) ?_
          refine k_iload (pc' := 51) dX9_root_49 rfl ?_
          refine p_sI (ν := mX9_isRoot) (pc' := 54) dX9_root_51 ml_RX9_240 mo_X9_isRoot ms_X9_isRoot (Nat.le_of_ble_eq_true rfl) rfl rfl (Nat.le_of_ble_eq_true rfl) (by decide) (x_isRoot yh hs) ?_
          refine k_if_eq (tgt := 69) (pc' := 57) dX9_root_54 rfl (fun zz_ => absurd zz_ (by rw [bI_eq]; exact fun q => q hr1)) (fun _ => ?_)
          refine k_iload (pc' := 59) dX9_root_57 rfl ?_
          refine k_iload_n (pc' := 60) dX9_root_59 rfl ?_
          refine k_icmp_ne (tgt := 66) (pc' := 63) dX9_root_60 rfl (fun zz_ => absurd ha zz_) (fun _ => ?_)
          refine k_iload (pc' := 65) dX9_root_63 rfl ?_
          refine p_ireturn dX9_root_65 rfl ?_
          rw [← hQ]
          refine Or.inr ⟨h, rfl, hh, c_8, Or.inr ⟨h1, ?_, hX, hi.rfl'⟩⟩
          rw [← hO, ← hr]
        · rw [if_neg ha] at hr
          refine k_iload (pc' := 33) dX9_root_31 rfl ?_
          refine k_aload_n (pc' := 34) dX9_root_33 rfl ?_
          refine p_get (pc' := 37) clX9 (Nat.le_of_ble_eq_true rfl) fl_RX9_12 dX9_root_34 (by first | assumption | decide | omega) (by assumption) rfl ?_
          refine p_vI (ν := mX6_lastCut) (pc' := 40) dX9_root_37 ml_RX9_237 mo_X6_lastCut mv_X6_lastCut clX6 (Nat.le_of_ble_eq_true rfl) rfl rfl (Nat.le_of_ble_eq_true rfl) (by first | assumption | decide | omega) (by assumption) (by decide) (c_lastCut x1) ?_
          refine k_icmp_gt (tgt := 75) (pc' := 43) dX9_root_40 rfl (fun zz_ => absurd zz_ (nI_nlt (by omega) (by omega))) (fun _ => ?_)
          refine k_aload_n (pc' := 44) dX9_root_43 rfl ?_
          refine p_get (pc' := 47) clX9 (Nat.le_of_ble_eq_true rfl) fl_RX9_47 dX9_root_44 (by first | assumption | decide | omega) (by assumption) rfl ?_
          refine k_iload_n (pc' := 48) dX9_root_47 rfl ?_
          refine p_aaldN (pc' := 49) (t0 := 4) dX9_root_48 rfl rfl (by first | assumption | decide | omega) (by assumption) (by decide) (by omega) ?_
          refine k_iload (pc' := 51) dX9_root_49 rfl ?_
          refine p_sI (ν := mX9_isRoot) (pc' := 54) dX9_root_51 ml_RX9_240 mo_X9_isRoot ms_X9_isRoot (Nat.le_of_ble_eq_true rfl) rfl rfl (Nat.le_of_ble_eq_true rfl) (by decide) (x_isRoot yh hs) ?_
          refine k_if_eq (tgt := 69) (pc' := 57) dX9_root_54 rfl (fun zz_ => absurd zz_ (by rw [bI_eq]; exact fun q => q hr1)) (fun _ => ?_)
          refine k_iload (pc' := 59) dX9_root_57 rfl ?_
          refine k_iload_n (pc' := 60) dX9_root_59 rfl ?_
          refine k_icmp_ne (tgt := 66) (pc' := 63) dX9_root_60 rfl (fun _ => ?_) (fun zz_ => absurd zz_ ha)
          refine k_iinc (pc' := 69) (v := a + nI 1) dX9_root_66 rfl rfl (Nat.le_of_ble_eq_true rfl) rfl ?_
          refine k_iinc (pc' := 72) (v := nI (s + 1)) dX9_root_69 rfl (nI_inc _) (Nat.le_of_ble_eq_true rfl) rfl ?_
          refine k_goto (tgt := 31) dX9_root_72 rfl ?_
          exact ih _ _ (by omega) (by omega) hr
      · rw [if_neg hr1] at hr
        refine k_iload (pc' := 33) dX9_root_31 rfl ?_
        refine k_aload_n (pc' := 34) dX9_root_33 rfl ?_
        refine p_get (pc' := 37) clX9 (Nat.le_of_ble_eq_true rfl) fl_RX9_12 dX9_root_34 (by first | assumption | decide | omega) (by assumption) rfl ?_
        refine p_vI (ν := mX6_lastCut) (pc' := 40) dX9_root_37 ml_RX9_237 mo_X6_lastCut mv_X6_lastCut clX6 (Nat.le_of_ble_eq_true rfl) rfl rfl (Nat.le_of_ble_eq_true rfl) (by first | assumption | decide | omega) (by assumption) (by decide) (c_lastCut x1) ?_
        refine k_icmp_gt (tgt := 75) (pc' := 43) dX9_root_40 rfl (fun zz_ => absurd zz_ (nI_nlt (by omega) (by omega))) (fun _ => ?_)
        refine k_aload_n (pc' := 44) dX9_root_43 rfl ?_
        refine p_get (pc' := 47) clX9 (Nat.le_of_ble_eq_true rfl) fl_RX9_47 dX9_root_44 (by first | assumption | decide | omega) (by assumption) rfl ?_
        refine k_iload_n (pc' := 48) dX9_root_47 rfl ?_
        refine p_aaldN (pc' := 49) (t0 := 4) dX9_root_48 rfl rfl (by first | assumption | decide | omega) (by assumption) (by decide) (by omega) ?_
        refine k_iload (pc' := 51) dX9_root_49 rfl ?_
        refine p_sI (ν := mX9_isRoot) (pc' := 54) dX9_root_51 ml_RX9_240 mo_X9_isRoot ms_X9_isRoot (Nat.le_of_ble_eq_true rfl) rfl rfl (Nat.le_of_ble_eq_true rfl) (by decide) (x_isRoot yh hs) ?_
        refine k_if_eq (tgt := 69) (pc' := 57) dX9_root_54 rfl (fun _ => ?_) (fun zz_ => absurd (by rw [bI_eq]; exact hr1) zz_)
        refine k_iinc (pc' := 72) (v := nI (s + 1)) dX9_root_69 rfl (nI_inc _) (Nat.le_of_ble_eq_true rfl) rfl ?_
        refine k_goto (tgt := 31) dX9_root_72 rfl ?_
        exact ih _ _ (by omega) (by omega) hr
  exact main (lC A.1) 1 (nI 0) (by omega) (by decide) hO.symm
theorem x_switched (h : isX G σ A B C I H T) (hS : ∀ h, h < 6 → xRk H h 2 = 0 → 1 ≤ H.2.2.1 h) {x y : Int32} : ConP G mX9_switched 4 [.ref (adr G 0), .int x, .int y] σ (fun v σ' => (¬ ((0 ≤ x.toInt ∧ x.toInt ≤ 5) ∧ (1 ≤ y.toInt ∧ y.toInt ≤ lC A.1)) ∧ xI G σ (-1) A B C I H T v σ') ∨ ∃ h, x = nI h ∧ h < 6 ∧ (1 ≤ y.toInt ∧ y.toInt ≤ lC A.1) ∧ ((¬ xRw A H h = 0 ∧ xI G σ (xRw A H h) A B C I H T v σ') ∨ (xRw A H h = 0 ∧ ¬ tIC (H.2.2.1 h) y (H.2.2.2 h) = 0 ∧ xI G σ (-5) A B C I H T v σ') ∨ (xRw A H h = 0 ∧ tIC (H.2.2.1 h) y (H.2.2.2 h) = 0 ∧ xI G σ (if (tS (H.2.2.1 h) y (H.2.2.2 h)).2 = 0 then 0 else 1) A B C I (va_up H.1 h (H.1 h), va_up H.2.1 h (H.2.1 h), va_up H.2.2.1 h (H.2.2.1 h), va_up H.2.2.2 h (tS (H.2.2.1 h) y (H.2.2.2 h)).1) T v σ'))) := by
  have hX := h
  obtain ⟨x0, x1, -, -, -, -, -, x31, xh, -⟩ := h
  have e1 := x1.2.2.1
  have hkW : kW = 104 := rfl
  refine ConP.of rfl (Nat.le_of_ble_eq_true rfl) ?_
  refine k_iload_n (pc' := 1) dX9_switched_0 rfl ?_
  refine p_sI (ν := mX9_isHolder) (pc' := 4) dX9_switched_1 ml_RX9_206 mo_X9_isHolder ms_X9_isHolder (Nat.le_of_ble_eq_true rfl) rfl rfl (Nat.le_of_ble_eq_true rfl) (by decide) (x_isHolder) ?_
  refine k_if_eq (tgt := 18) (pc' := 7) dX9_switched_4 rfl (fun c_4 => ?_) (fun c_4 => ?_)
  · rw [bI_eq] at c_4
    refine k_iconst (pc' := 19) (v := -1) dX9_switched_18 rfl ?_
    refine p_ireturn dX9_switched_19 rfl ?_
    exact Or.inl ⟨fun q => c_4 q.1, rfl, hX, hi.rfl'⟩
  rw [bI_ne] at c_4
  refine k_aload_n (pc' := 8) dX9_switched_7 rfl ?_
  refine p_get (pc' := 11) clX9 (Nat.le_of_ble_eq_true rfl) fl_RX9_12 dX9_switched_8 (by first | assumption | decide | omega) (by assumption) rfl ?_
  refine k_iload_n (pc' := 12) dX9_switched_11 rfl ?_
  refine p_vI (ν := mX6_hasCut) (pc' := 15) dX9_switched_12 ml_RX9_124 mo_X6_hasCut mv_X6_hasCut clX6 (Nat.le_of_ble_eq_true rfl) rfl rfl (Nat.le_of_ble_eq_true rfl) (by first | assumption | decide | omega) (by assumption) (by decide) (c_hasCut x1 y) ?_
  refine k_if_ne (tgt := 20) (pc' := 18) dX9_switched_15 rfl (fun c_15 => ?_) (fun c_15 => ?_)
  rotate_left
  · rw [bI_eq] at c_15
    refine k_iconst (pc' := 19) (v := -1) dX9_switched_18 rfl ?_
    refine p_ireturn dX9_switched_19 rfl ?_
    exact Or.inl ⟨fun q => c_15 q.2, rfl, hX, hi.rfl'⟩
  rw [bI_ne] at c_15
  obtain ⟨h, hh, rfl⟩ := nI_in0 (n := 6) (x := x) (by omega) (by omega) (by decide)
  by_cases h1 : xRw A H h = 0
  rotate_left
  · refine k_aload_n (pc' := 21) dX9_switched_20 rfl ?_
    refine k_iload_n (pc' := 22) dX9_switched_21 rfl ?_
    refine p_vI (ν := mX9_refusalOfWall) (pc' := 25) dX9_switched_22 ml_RX9_225 mo_X9_refusalOfWall mv_X9_refusalOfWall clX9 (Nat.le_of_ble_eq_true rfl) rfl rfl (Nat.le_of_ble_eq_true rfl) (by first | assumption | decide | omega) (by assumption) (by decide) (x_rw hX hh) ?_
    refine k_istore_n (pc' := 26) dX9_switched_25 (Nat.le_of_ble_eq_true rfl) rfl ?_
    refine k_iload_n (pc' := 27) dX9_switched_26 rfl ?_
    refine k_if_eq (tgt := 32) (pc' := 30) dX9_switched_27 rfl (fun zz_ => absurd zz_ h1) (fun _ => ?_)
    refine k_iload_n (pc' := 31) dX9_switched_30 rfl ?_
    refine p_ireturn dX9_switched_31 rfl ?_
    exact Or.inr ⟨h, rfl, hh, c_15, Or.inl ⟨h1, rfl, hX, hi.rfl'⟩⟩
  have hs : 1 ≤ H.2.2.1 h := hS h hh (by
    by_cases h2 : xRk H h 2 = 0
    · exact h2
    · unfold xRw at h1
      rw [if_neg h2] at h1
      exact absurd h1 h2)
  have yh := xh h hh
  have e32 := yh.2.1
  by_cases h2 : tIC (H.2.2.1 h) y (H.2.2.2 h) = 0
  rotate_left
  · refine k_aload_n (pc' := 21) dX9_switched_20 rfl ?_
    refine k_iload_n (pc' := 22) dX9_switched_21 rfl ?_
    refine p_vI (ν := mX9_refusalOfWall) (pc' := 25) dX9_switched_22 ml_RX9_225 mo_X9_refusalOfWall mv_X9_refusalOfWall clX9 (Nat.le_of_ble_eq_true rfl) rfl rfl (Nat.le_of_ble_eq_true rfl) (by first | assumption | decide | omega) (by assumption) (by decide) (x_rw hX hh) ?_
    refine k_istore_n (pc' := 26) dX9_switched_25 (Nat.le_of_ble_eq_true rfl) rfl ?_
    refine k_iload_n (pc' := 27) dX9_switched_26 rfl ?_
    refine k_if_eq (tgt := 32) (pc' := 30) dX9_switched_27 rfl (fun _ => ?_) (fun zz_ => absurd h1 zz_)
    refine k_aload_n (pc' := 33) dX9_switched_32 rfl ?_
    refine p_get (pc' := 36) clX9 (Nat.le_of_ble_eq_true rfl) fl_RX9_47 dX9_switched_33 (by first | assumption | decide | omega) (by assumption) rfl ?_
    refine k_iload_n (pc' := 37) dX9_switched_36 rfl ?_
    refine p_aaldN (pc' := 38) (t0 := 4) dX9_switched_37 rfl rfl (by first | assumption | decide | omega) (by assumption) (by decide) (by omega) ?_
    refine k_iload_n (pc' := 39) dX9_switched_38 rfl ?_
    refine p_vI (ν := mX1_togetherInCut) (pc' := 42) dX9_switched_39 ml_RX9_244 mo_X1_togetherInCut mv_X1_togetherInCut clX1 (Nat.le_of_ble_eq_true rfl) rfl rfl (Nat.le_of_ble_eq_true rfl) (by first | assumption | decide | omega) (by assumption) (by decide) (c_togetherInCut yh hs y) ?_
    refine k_if_eq (tgt := 48) (pc' := 45) dX9_switched_42 rfl (fun zz_ => absurd zz_ h2) (fun _ => ?_)
    refine k_bipush (pc' := 47) (v := -5) dX9_switched_45 rfl ?_
    refine p_ireturn dX9_switched_47 rfl ?_
    exact Or.inr ⟨h, rfl, hh, c_15, Or.inr (Or.inl ⟨h1, h2, rfl, hX, hi.rfl'⟩)⟩
  have zX := hX.hold hh (kd := H.1 h) (op := H.2.1 h) (S := H.2.2.1 h) (nu := (tS (H.2.2.1 h) y (H.2.2.2 h)).1) yh.2.2.2
  by_cases h3 : (tS (H.2.2.1 h) y (H.2.2.2 h)).2 = 0
  · refine k_aload_n (pc' := 21) dX9_switched_20 rfl ?_
    refine k_iload_n (pc' := 22) dX9_switched_21 rfl ?_
    refine p_vI (ν := mX9_refusalOfWall) (pc' := 25) dX9_switched_22 ml_RX9_225 mo_X9_refusalOfWall mv_X9_refusalOfWall clX9 (Nat.le_of_ble_eq_true rfl) rfl rfl (Nat.le_of_ble_eq_true rfl) (by first | assumption | decide | omega) (by assumption) (by decide) (x_rw hX hh) ?_
    refine k_istore_n (pc' := 26) dX9_switched_25 (Nat.le_of_ble_eq_true rfl) rfl ?_
    refine k_iload_n (pc' := 27) dX9_switched_26 rfl ?_
    refine k_if_eq (tgt := 32) (pc' := 30) dX9_switched_27 rfl (fun _ => ?_) (fun zz_ => absurd h1 zz_)
    refine k_aload_n (pc' := 33) dX9_switched_32 rfl ?_
    refine p_get (pc' := 36) clX9 (Nat.le_of_ble_eq_true rfl) fl_RX9_47 dX9_switched_33 (by first | assumption | decide | omega) (by assumption) rfl ?_
    refine k_iload_n (pc' := 37) dX9_switched_36 rfl ?_
    refine p_aaldN (pc' := 38) (t0 := 4) dX9_switched_37 rfl rfl (by first | assumption | decide | omega) (by assumption) (by decide) (by omega) ?_
    refine k_iload_n (pc' := 39) dX9_switched_38 rfl ?_
    refine p_vI (ν := mX1_togetherInCut) (pc' := 42) dX9_switched_39 ml_RX9_244 mo_X1_togetherInCut mv_X1_togetherInCut clX1 (Nat.le_of_ble_eq_true rfl) rfl rfl (Nat.le_of_ble_eq_true rfl) (by first | assumption | decide | omega) (by assumption) (by decide) (c_togetherInCut yh hs y) ?_
    refine k_if_eq (tgt := 48) (pc' := 45) dX9_switched_42 rfl (fun _ => ?_) (fun zz_ => absurd h2 zz_)
    refine k_aload_n (pc' := 49) dX9_switched_48 rfl ?_
    refine p_get (pc' := 52) clX9 (Nat.le_of_ble_eq_true rfl) fl_RX9_47 dX9_switched_49 (by first | assumption | decide | omega) (by assumption) rfl ?_
    refine k_iload_n (pc' := 53) dX9_switched_52 rfl ?_
    refine p_aaldN (pc' := 54) (t0 := 4) dX9_switched_53 rfl rfl (by first | assumption | decide | omega) (by assumption) (by decide) (by omega) ?_
    refine k_iload_n (pc' := 55) dX9_switched_54 rfl ?_
    refine p_vI (ν := mX1_turnSigns) (pc' := 58) dX9_switched_55 ml_RX9_247 mo_X1_turnSigns mv_X1_turnSigns clX1 (Nat.le_of_ble_eq_true rfl) rfl rfl (Nat.le_of_ble_eq_true rfl) (by first | assumption | decide | omega) (by assumption) (by decide) (c_turnSigns yh hs y) ?_
    refine k_if_eq (tgt := 65) (pc' := 61) dX9_switched_58 rfl (fun _ => ?_) (fun zz_ => absurd h3 zz_)
    refine k_iconst (pc' := 66) (v := nI 0) dX9_switched_65 rfl ?_
    refine p_ireturn dX9_switched_66 rfl ?_
    refine Or.inr ⟨h, rfl, hh, c_15, Or.inr (Or.inr ⟨h1, h2, ?_, zX, fun q hq => putH_n (by omega) (by omega)⟩)⟩
    rw [if_pos h3]
    rfl
  · refine k_aload_n (pc' := 21) dX9_switched_20 rfl ?_
    refine k_iload_n (pc' := 22) dX9_switched_21 rfl ?_
    refine p_vI (ν := mX9_refusalOfWall) (pc' := 25) dX9_switched_22 ml_RX9_225 mo_X9_refusalOfWall mv_X9_refusalOfWall clX9 (Nat.le_of_ble_eq_true rfl) rfl rfl (Nat.le_of_ble_eq_true rfl) (by first | assumption | decide | omega) (by assumption) (by decide) (x_rw hX hh) ?_
    refine k_istore_n (pc' := 26) dX9_switched_25 (Nat.le_of_ble_eq_true rfl) rfl ?_
    refine k_iload_n (pc' := 27) dX9_switched_26 rfl ?_
    refine k_if_eq (tgt := 32) (pc' := 30) dX9_switched_27 rfl (fun _ => ?_) (fun zz_ => absurd h1 zz_)
    refine k_aload_n (pc' := 33) dX9_switched_32 rfl ?_
    refine p_get (pc' := 36) clX9 (Nat.le_of_ble_eq_true rfl) fl_RX9_47 dX9_switched_33 (by first | assumption | decide | omega) (by assumption) rfl ?_
    refine k_iload_n (pc' := 37) dX9_switched_36 rfl ?_
    refine p_aaldN (pc' := 38) (t0 := 4) dX9_switched_37 rfl rfl (by first | assumption | decide | omega) (by assumption) (by decide) (by omega) ?_
    refine k_iload_n (pc' := 39) dX9_switched_38 rfl ?_
    refine p_vI (ν := mX1_togetherInCut) (pc' := 42) dX9_switched_39 ml_RX9_244 mo_X1_togetherInCut mv_X1_togetherInCut clX1 (Nat.le_of_ble_eq_true rfl) rfl rfl (Nat.le_of_ble_eq_true rfl) (by first | assumption | decide | omega) (by assumption) (by decide) (c_togetherInCut yh hs y) ?_
    refine k_if_eq (tgt := 48) (pc' := 45) dX9_switched_42 rfl (fun _ => ?_) (fun zz_ => absurd h2 zz_)
    refine k_aload_n (pc' := 49) dX9_switched_48 rfl ?_
    refine p_get (pc' := 52) clX9 (Nat.le_of_ble_eq_true rfl) fl_RX9_47 dX9_switched_49 (by first | assumption | decide | omega) (by assumption) rfl ?_
    refine k_iload_n (pc' := 53) dX9_switched_52 rfl ?_
    refine p_aaldN (pc' := 54) (t0 := 4) dX9_switched_53 rfl rfl (by first | assumption | decide | omega) (by assumption) (by decide) (by omega) ?_
    refine k_iload_n (pc' := 55) dX9_switched_54 rfl ?_
    refine p_vI (ν := mX1_turnSigns) (pc' := 58) dX9_switched_55 ml_RX9_247 mo_X1_turnSigns mv_X1_turnSigns clX1 (Nat.le_of_ble_eq_true rfl) rfl rfl (Nat.le_of_ble_eq_true rfl) (by first | assumption | decide | omega) (by assumption) (by decide) (c_turnSigns yh hs y) ?_
    refine k_if_eq (tgt := 65) (pc' := 61) dX9_switched_58 rfl (fun zz_ => absurd zz_ h3) (fun _ => ?_)
    refine k_iconst (pc' := 62) (v := nI 1) dX9_switched_61 rfl ?_
    refine k_goto (tgt := 66) dX9_switched_62 rfl ?_
    refine p_ireturn dX9_switched_66 rfl ?_
    refine Or.inr ⟨h, rfl, hh, c_15, Or.inr (Or.inr ⟨h1, h2, ?_, zX, fun q hq => putH_n (by omega) (by omega)⟩)⟩
    rw [if_neg h3]
    rfl
theorem x_roots (h : isX G σ A B C I H T) (hS : ∀ h, h < 6 → xRk H h 2 = 0 → 1 ≤ H.2.2.1 h) {x y : Int32} : ConP G mX9_roots 5 [.ref (adr G 0), .int x, .int y] σ (fun v σ' => (¬ ((0 ≤ x.toInt ∧ x.toInt ≤ 5) ∧ (0 ≤ y.toInt ∧ y.toInt ≤ 2)) ∧ xI G σ (-1) A B C I H T v σ') ∨ ∃ h, x = nI h ∧ h < 6 ∧ (0 ≤ y.toInt ∧ y.toInt ≤ 2) ∧ ((¬ xRw A H h = 0 ∧ xI G σ (xRw A H h) A B C I H T v σ') ∨ (xRw A H h = 0 ∧ ∃ w0, xI G σ (if y = 0 then xRc A.1 (H.2.2.1 h) (H.2.2.2 h) else if y = 1 then nI (xRr A.1 (H.2.2.1 h) (H.2.2.2 h) w0).2.2.2 else bI ((xRr A.1 (H.2.2.1 h) (H.2.2.2 h) w0).2.2.2 = pN A.1 - 1)) A B C I H T v σ'))) := by
  have hX := h
  obtain ⟨x0, x1, -, -, -, -, -, x31, xh, -⟩ := h
  have e1 := x1.2.2.1
  have hN6 := x1.2.2.2.2.2
  have hpn := pN_le hN6
  have hpn1 : 1 ≤ pN A.1 := by
    have hN2 := x1.2.2.2.2.1
    have : ∀ N, N < 7 → 2 ≤ N → 1 ≤ pN N := by decide
    exact this _ (by omega) hN2
  have hkW : kW = 104 := rfl
  refine ConP.of rfl (Nat.le_of_ble_eq_true rfl) ?_
  refine k_iload_n (pc' := 1) dX9_roots_0 rfl ?_
  refine k_if_lt (tgt := 9) (pc' := 4) dX9_roots_1 rfl (fun c_1 => ?_) (fun c_1 => ?_)
  · rw [iLt, i0] at c_1
    refine k_iconst (pc' := 10) (v := -1) dX9_roots_9 rfl ?_
    refine p_ireturn dX9_roots_10 rfl ?_
    exact Or.inl ⟨fun q => by omega, rfl, hX, hi.rfl'⟩
  rw [iLt, i0] at c_1
  refine k_iload_n (pc' := 5) dX9_roots_4 rfl ?_
  refine k_iconst (pc' := 6) (v := nI 2) dX9_roots_5 rfl ?_
  refine k_icmp_le (tgt := 11) (pc' := 9) dX9_roots_6 rfl (fun c_6 => ?_) (fun c_6 => ?_)
  rotate_left
  · rw [iLe, nI_e (by decide)] at c_6
    refine k_iconst (pc' := 10) (v := -1) dX9_roots_9 rfl ?_
    refine p_ireturn dX9_roots_10 rfl ?_
    exact Or.inl ⟨fun q => by omega, rfl, hX, hi.rfl'⟩
  rw [iLe, nI_e (by decide)] at c_6
  by_cases hx : 0 ≤ x.toInt ∧ x.toInt ≤ 5
  rotate_left
  · refine k_aload_n (pc' := 12) dX9_roots_11 rfl ?_
    refine k_iload_n (pc' := 13) dX9_roots_12 rfl ?_
    refine p_vI (ν := mX9_refusalOfWall) (pc' := 16) dX9_roots_13 ml_RX9_225 mo_X9_refusalOfWall mv_X9_refusalOfWall clX9 (Nat.le_of_ble_eq_true rfl) rfl rfl (Nat.le_of_ble_eq_true rfl) (by first | assumption | decide | omega) (by assumption) (by decide) (x_rwBad hX hx) ?_
    refine k_istore_n (pc' := 17) dX9_roots_16 (Nat.le_of_ble_eq_true rfl) rfl ?_
    refine k_iload_n (pc' := 18) dX9_roots_17 rfl ?_
    refine k_if_eq (tgt := 23) (pc' := 21) dX9_roots_18 rfl (fun zz_ => absurd zz_ (by decide)) (fun _ => ?_)
    refine k_iload_n (pc' := 22) dX9_roots_21 rfl ?_
    refine p_ireturn dX9_roots_22 rfl ?_
    exact Or.inl ⟨fun q => hx q.1, rfl, hX, hi.rfl'⟩
  obtain ⟨h, hh, rfl⟩ := nI_in0 (n := 6) (x := x) (by omega) (by omega) (by decide)
  by_cases h1 : xRw A H h = 0
  rotate_left
  · refine k_aload_n (pc' := 12) dX9_roots_11 rfl ?_
    refine k_iload_n (pc' := 13) dX9_roots_12 rfl ?_
    refine p_vI (ν := mX9_refusalOfWall) (pc' := 16) dX9_roots_13 ml_RX9_225 mo_X9_refusalOfWall mv_X9_refusalOfWall clX9 (Nat.le_of_ble_eq_true rfl) rfl rfl (Nat.le_of_ble_eq_true rfl) (by first | assumption | decide | omega) (by assumption) (by decide) (x_rw hX hh) ?_
    refine k_istore_n (pc' := 17) dX9_roots_16 (Nat.le_of_ble_eq_true rfl) rfl ?_
    refine k_iload_n (pc' := 18) dX9_roots_17 rfl ?_
    refine k_if_eq (tgt := 23) (pc' := 21) dX9_roots_18 rfl (fun zz_ => absurd zz_ h1) (fun _ => ?_)
    refine k_iload_n (pc' := 22) dX9_roots_21 rfl ?_
    refine p_ireturn dX9_roots_22 rfl ?_
    exact Or.inr ⟨h, rfl, hh, ⟨by omega, by omega⟩, Or.inl ⟨h1, rfl, hX, hi.rfl'⟩⟩
  have hs : 1 ≤ H.2.2.1 h := hS h hh (by
    by_cases h2 : xRk H h 2 = 0
    · exact h2
    · unfold xRw at h1
      rw [if_neg h2] at h1
      exact absurd h1 h2)
  have yh := xh h hh
  have e32 := yh.2.1
  by_cases hy : y = 0
  · refine k_aload_n (pc' := 12) dX9_roots_11 rfl ?_
    refine k_iload_n (pc' := 13) dX9_roots_12 rfl ?_
    refine p_vI (ν := mX9_refusalOfWall) (pc' := 16) dX9_roots_13 ml_RX9_225 mo_X9_refusalOfWall mv_X9_refusalOfWall clX9 (Nat.le_of_ble_eq_true rfl) rfl rfl (Nat.le_of_ble_eq_true rfl) (by first | assumption | decide | omega) (by assumption) (by decide) (x_rw hX hh) ?_
    refine k_istore_n (pc' := 17) dX9_roots_16 (Nat.le_of_ble_eq_true rfl) rfl ?_
    refine k_iload_n (pc' := 18) dX9_roots_17 rfl ?_
    refine k_if_eq (tgt := 23) (pc' := 21) dX9_roots_18 rfl (fun _ => ?_) (fun zz_ => absurd h1 zz_)
    refine k_iload_n (pc' := 24) dX9_roots_23 rfl ?_
    refine k_if_ne (tgt := 38) (pc' := 27) dX9_roots_24 rfl (fun zz_ => absurd hy zz_) (fun _ => ?_)
    refine k_aload_n (pc' := 28) dX9_roots_27 rfl ?_
    refine k_aload_n (pc' := 29) dX9_roots_28 rfl ?_
    refine p_get (pc' := 32) clX9 (Nat.le_of_ble_eq_true rfl) fl_RX9_47 dX9_roots_29 (by first | assumption | decide | omega) (by assumption) rfl ?_
    refine k_iload_n (pc' := 33) dX9_roots_32 rfl ?_
    refine p_aaldN (pc' := 34) (t0 := 4) dX9_roots_33 rfl rfl (by first | assumption | decide | omega) (by assumption) (by decide) (by omega) ?_
    refine p_vI (ν := mX9_rootCount) (pc' := 37) dX9_roots_34 ml_RX9_230 mo_X9_rootCount mv_X9_rootCount clX9 (Nat.le_of_ble_eq_true rfl) rfl rfl (Nat.le_of_ble_eq_true rfl) (by first | assumption | decide | omega) (by assumption) (by decide) (x_rootCount hX hh hs) ?_
    refine p_ireturn dX9_roots_37 rfl ?_
    refine Or.inr ⟨h, rfl, hh, ⟨by omega, by omega⟩, Or.inr ⟨h1, (fun _ _ => 0, fun _ => 0, fun _ => 0, 0), ?_, hX, hi.rfl'⟩⟩
    rw [if_pos hy]
  refine k_aload_n (pc' := 12) dX9_roots_11 rfl ?_
  refine k_iload_n (pc' := 13) dX9_roots_12 rfl ?_
  refine p_vI (ν := mX9_refusalOfWall) (pc' := 16) dX9_roots_13 ml_RX9_225 mo_X9_refusalOfWall mv_X9_refusalOfWall clX9 (Nat.le_of_ble_eq_true rfl) rfl rfl (Nat.le_of_ble_eq_true rfl) (by first | assumption | decide | omega) (by assumption) (by decide) (x_rw hX hh) ?_
  refine k_istore_n (pc' := 17) dX9_roots_16 (Nat.le_of_ble_eq_true rfl) rfl ?_
  refine k_iload_n (pc' := 18) dX9_roots_17 rfl ?_
  refine k_if_eq (tgt := 23) (pc' := 21) dX9_roots_18 rfl (fun _ => ?_) (fun zz_ => absurd h1 zz_)
  refine k_iload_n (pc' := 24) dX9_roots_23 rfl ?_
  refine k_if_ne (tgt := 38) (pc' := 27) dX9_roots_24 rfl (fun _ => ?_) (fun zz_ => absurd zz_ hy)
  refine k_aload_n (pc' := 39) dX9_roots_38 rfl ?_
  refine k_aload_n (pc' := 40) dX9_roots_39 rfl ?_
  refine p_get (pc' := 43) clX9 (Nat.le_of_ble_eq_true rfl) fl_RX9_47 dX9_roots_40 (by first | assumption | decide | omega) (by assumption) rfl ?_
  refine k_iload_n (pc' := 44) dX9_roots_43 rfl ?_
  refine p_aaldN (pc' := 45) (t0 := 4) dX9_roots_44 rfl rfl (by first | assumption | decide | omega) (by assumption) (by decide) (by omega) ?_
  refine p_callV (ν := mX9_rootRank) (pc' := 48) dX9_roots_45 ml_RX9_234 mo_X9_rootRank mv_X9_rootRank clX9 (Nat.le_of_ble_eq_true rfl) rfl rfl (Nat.le_of_ble_eq_true rfl) (by first | assumption | decide | omega) (by assumption) (by decide) (x_rootRank hX hh hs) (fun v_45 σ_45 h_45 => ?_)
  obtain ⟨w0, ⟨rfl, zX, zh⟩, hr⟩ := h_45
  generalize hR : (xRr A.1 (H.2.2.1 h) (H.2.2.2 h) w0).2.2.2 = R at *
  have z0 := zX.1
  have z1 := zX.2.1
  have f1 := z1.2.2.1
  by_cases hy1 : y = nI 1
  · refine k_istore (pc' := 50) dX9_roots_48 (Nat.le_of_ble_eq_true rfl) rfl ?_
    refine k_iload_n (pc' := 51) dX9_roots_50 rfl ?_
    refine k_iconst (pc' := 52) (v := nI 1) dX9_roots_51 rfl ?_
    refine k_icmp_ne (tgt := 58) (pc' := 55) dX9_roots_52 rfl (fun zz_ => absurd hy1 zz_) (fun _ => ?_)
    refine k_iload (pc' := 57) dX9_roots_55 rfl ?_
    refine p_ireturn dX9_roots_57 rfl ?_
    refine Or.inr ⟨h, rfl, hh, ⟨by omega, by omega⟩, Or.inr ⟨h1, w0, ?_, zX, zh⟩⟩
    rw [if_neg hy, if_pos (show y = 1 from hy1), hR]
  · by_cases hq : R = pN A.1 - 1
    · refine k_istore (pc' := 50) dX9_roots_48 (Nat.le_of_ble_eq_true rfl) rfl ?_
      refine k_iload_n (pc' := 51) dX9_roots_50 rfl ?_
      refine k_iconst (pc' := 52) (v := nI 1) dX9_roots_51 rfl ?_
      refine k_icmp_ne (tgt := 58) (pc' := 55) dX9_roots_52 rfl (fun _ => ?_) (fun zz_ => absurd zz_ hy1)
      refine k_iload (pc' := 60) dX9_roots_58 rfl ?_
      refine k_aload_n (pc' := 61) dX9_roots_60 rfl ?_
      refine p_get (pc' := 64) clX9 (Nat.le_of_ble_eq_true rfl) fl_RX9_12 dX9_roots_61 (by first | assumption | decide | omega) (by assumption) rfl ?_
      refine p_vI (ν := mX6_pairCount) (pc' := 67) dX9_roots_64 ml_RX9_132 mo_X6_pairCount mv_X6_pairCount clX6 (Nat.le_of_ble_eq_true rfl) rfl rfl (Nat.le_of_ble_eq_true rfl) (by first | assumption | decide | omega) (by assumption) (by decide) (c_pairCount z1) ?_
      refine k_iconst (pc' := 68) (v := nI 1) dX9_roots_67 rfl ?_
      refine k_isub (pc' := 69) dX9_roots_68 (by first | exact pk_sub (by omega) | rfl) ?_
      refine k_icmp_ne (tgt := 76) (pc' := 72) dX9_roots_69 rfl (fun zz_ => absurd (by rw [hq]) zz_) (fun _ => ?_)
      refine k_iconst (pc' := 73) (v := nI 1) dX9_roots_72 rfl ?_
      refine k_goto (tgt := 77) dX9_roots_73 rfl ?_
      refine p_ireturn dX9_roots_77 rfl ?_
      refine Or.inr ⟨h, rfl, hh, ⟨by omega, by omega⟩, Or.inr ⟨h1, w0, ?_, zX, zh⟩⟩
      rw [if_neg hy, if_neg (show ¬ y = 1 from hy1), hR, bI_t hq]
      rfl
    · refine k_istore (pc' := 50) dX9_roots_48 (Nat.le_of_ble_eq_true rfl) rfl ?_
      refine k_iload_n (pc' := 51) dX9_roots_50 rfl ?_
      refine k_iconst (pc' := 52) (v := nI 1) dX9_roots_51 rfl ?_
      refine k_icmp_ne (tgt := 58) (pc' := 55) dX9_roots_52 rfl (fun _ => ?_) (fun zz_ => absurd zz_ hy1)
      refine k_iload (pc' := 60) dX9_roots_58 rfl ?_
      refine k_aload_n (pc' := 61) dX9_roots_60 rfl ?_
      refine p_get (pc' := 64) clX9 (Nat.le_of_ble_eq_true rfl) fl_RX9_12 dX9_roots_61 (by first | assumption | decide | omega) (by assumption) rfl ?_
      refine p_vI (ν := mX6_pairCount) (pc' := 67) dX9_roots_64 ml_RX9_132 mo_X6_pairCount mv_X6_pairCount clX6 (Nat.le_of_ble_eq_true rfl) rfl rfl (Nat.le_of_ble_eq_true rfl) (by first | assumption | decide | omega) (by assumption) (by decide) (c_pairCount z1) ?_
      refine k_iconst (pc' := 68) (v := nI 1) dX9_roots_67 rfl ?_
      refine k_isub (pc' := 69) dX9_roots_68 (by first | exact pk_sub (by omega) | rfl) ?_
      refine k_icmp_ne (tgt := 76) (pc' := 72) dX9_roots_69 rfl (fun _ => ?_) (fun zz_ => absurd zz_ (by rw [nI_eq (by omega) (by omega)]; exact hq))
      refine k_iconst (pc' := 77) (v := nI 0) dX9_roots_76 rfl ?_
      refine p_ireturn dX9_roots_77 rfl ?_
      refine Or.inr ⟨h, rfl, hh, ⟨by omega, by omega⟩, Or.inr ⟨h1, w0, ?_, zX, zh⟩⟩
      rw [if_neg hy, if_neg (show ¬ y = 1 from hy1), hR, bI_f hq]
      rfl
end X8
