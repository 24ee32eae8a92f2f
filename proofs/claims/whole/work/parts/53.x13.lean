/-- one try: the number of cut s goes to v -/
def skG (P : Nat) (s : Nat) (v : Int32) (w : SS) : SS := (upd w.1 s v, w.2.1, gN P (w.2.1 s) (v - w.1 s) w.2.2)
def skI (P L : Nat) : Nat → Nat → Nat → Bool → SS → Int32 × SS
  | 0, _, _, _, w => (-7, w)
  | n + 1, made, s, fr, w =>
    if s < L then skI P L n (made + 1) (s + 1) true (skG P s (if fr then lL P (w.2.1 s) w.2.2 else w.1 s - nI 1) w)
    else if ∀ p, p < P → (skG P s (if fr then lL P (w.2.1 s) w.2.2 else w.1 s - nI 1) w).2.2 p = 0 then (nI made, skG P s (if fr then lL P (w.2.1 s) w.2.2 else w.1 s - nI 1) w)
    else if lAb (skG P s (if fr then lL P (w.2.1 s) w.2.2 else w.1 s - nI 1) w).1 L = 0 then (-2, skG P s (if fr then lL P (w.2.1 s) w.2.2 else w.1 s - nI 1) w)
    else skI P L n (made + 1) (lAb (skG P s (if fr then lL P (w.2.1 s) w.2.2 else w.1 s - nI 1) w).1 L) false (skG P s (if fr then lL P (w.2.1 s) w.2.2 else w.1 s - nI 1) w)
theorem lAb_le {nu : Nat → Int32} : ∀ L, lAb nu L ≤ L := by
  intro L
  induction L with
  | zero => exact Nat.le_refl _
  | succ L ih =>
    unfold lAb
    split
    · omega
    · exact Nat.le_refl _
section X13
variable {G : GT} {σ σ' : Sto} {A : XA} {B : XB} {C : XC} {I : XI} {H : XH} {T : XT}
theorem c_seek {t N P0 L0 mo : Nat} {far : Nat → Int32} {w : SS} (hT : isT G σ t N far) (ht : t + 1 < 61) (hmo : mo < 10000) : ConP G mX5_seek 4 [.ref (adr G 61), .ref (adr G t), .int (nI mo)] (putS G σ P0 L0 w) (rI (skI (pN N) (lC N) mo 1 1 true (sst N far w)).1 (putS G σ (pN N) (lC N) (skI (pN N) (lC N) mo 1 1 true (sst N far w)).2)) := by
  have hP := pN_le hT.2.2.2.2.2
  have hl := lC_le hT.2.2.2.2.1 hT.2.2.2.2.2
  refine ConP.of rfl (Nat.le_of_ble_eq_true rfl) ?_
  refine k_aload_n (pc' := 1) dX5_seek_0 rfl ?_
  refine k_aload_n (pc' := 2) dX5_seek_1 rfl ?_
  refine p_vV (ν := mX5_start) (pc' := 5) dX5_seek_2 ml_RX5_28 mo_X5_start mv_X5_start clX5 (Nat.le_of_ble_eq_true rfl) rfl rfl (Nat.le_of_ble_eq_true rfl) (by first | assumption | decide | omega) pS61 (by decide) (c_ssStart hT ht) ?_
  refine k_iconst (pc' := 6) (v := nI 1) dX5_seek_5 rfl ?_
  refine k_istore_n (pc' := 7) dX5_seek_6 (Nat.le_of_ble_eq_true rfl) rfl ?_
  refine k_iconst (pc' := 8) (v := nI 1) dX5_seek_7 rfl ?_
  refine k_istore (pc' := 10) dX5_seek_8 (Nat.le_of_ble_eq_true rfl) rfl ?_
  refine k_iconst (pc' := 11) (v := nI 1) dX5_seek_10 rfl ?_
  refine k_istore (pc' := 13) dX5_seek_11 (Nat.le_of_ble_eq_true rfl) rfl ?_
  generalize pN N = P at *
  generalize lC N = L at *
  obtain ⟨O, hO⟩ : ∃ O, O = skI P L mo 1 1 true (sst N far w) := ⟨_, rfl⟩
  rw [← hO]
  have main : ∀ n made s (fr : Bool) (u : SS), made + n = mo + 1 → 1 ≤ s → s ≤ L → skI P L n made s fr u = O → OkP G mX5_seek 4 (rI O.1 (putS G σ P L O.2)) 13 [some (.ref (adr G 61)), some (.ref (adr G t)), some (.int (nI mo)), some (.int (nI s)), some (.int (if fr then nI 1 else nI 0)), some (.int (nI made))] [] (putS G σ P L u) := by
    intro n
    induction n with
    | zero =>
      intro made s fr u hm hs1 hsL hr
      unfold skI at hr
      refine k_iload (pc' := 15) dX5_seek_13 rfl ?_
      refine k_iload_n (pc' := 16) dX5_seek_15 rfl ?_
      refine k_icmp_gt (tgt := 93) (pc' := 19) dX5_seek_16 rfl (fun _ => ?_) (fun zz_ => absurd (nI_lt (by omega) (by omega)) zz_)
      refine k_bipush (pc' := 95) (v := -7) dX5_seek_93 rfl ?_
      refine p_ireturn dX5_seek_95 rfl ?_
      rw [← hr]
      exact ⟨rfl, rfl⟩
    | succ n ih =>
      intro made s fr u hm hs1 hsL hr
      unfold skI at hr
      obtain ⟨v, hv⟩ : ∃ v, v = (if fr = true then lL P (u.2.1 s) u.2.2 else u.1 s - nI 1) := ⟨_, rfl⟩
      rw [← hv] at hr
      obtain ⟨u2, hu2⟩ : ∃ u2, u2 = skG P s v u := ⟨_, rfl⟩
      rw [← hu2] at hr
      have rest : OkP G mX5_seek 4 (rI O.1 (putS G σ P L O.2)) 42 [some (.ref (adr G 61)), some (.ref (adr G t)), some (.int (nI mo)), some (.int (nI s)), some (.int (if fr then nI 1 else nI 0)), some (.int (nI made))] [.int v, .int (nI s), .ref (adr G 61)] (putS G σ P L u) := by
        refine p_vV (ν := mX5_giveNumber) (pc' := 45) dX5_seek_42 ml_RX5_36 mo_X5_giveNumber mv_X5_giveNumber clX5 (Nat.le_of_ble_eq_true rfl) rfl rfl (Nat.le_of_ble_eq_true rfl) (by first | assumption | decide | omega) pS61 (by decide) (c_giveNumber hP (by omega)) ?_
        rw [show (upd u.1 s v, u.2.1, gN P (u.2.1 s) (v - u.1 s) u.2.2) = u2 from hu2.symm]
        by_cases h1 : s < L
        · rw [if_pos h1] at hr
          refine k_iload_n (pc' := 46) dX5_seek_45 rfl ?_
          refine k_aload_n (pc' := 47) dX5_seek_46 rfl ?_
          refine p_get (pc' := 50) clX5 (Nat.le_of_ble_eq_true rfl) fl_RX5_25 dX5_seek_47 (by first | assumption | decide | omega) pS61 rfl ?_
          refine k_icmp_ge (tgt := 62) (pc' := 53) dX5_seek_50 rfl (fun zz_ => absurd zz_ (nI_ge (by omega) (by omega))) (fun _ => ?_)
          refine k_iinc (pc' := 56) (v := nI (s + 1)) dX5_seek_53 rfl (nI_inc _) (Nat.le_of_ble_eq_true rfl) rfl ?_
          refine k_iconst (pc' := 57) (v := nI 1) dX5_seek_56 rfl ?_
          refine k_istore (pc' := 59) dX5_seek_57 (Nat.le_of_ble_eq_true rfl) rfl ?_
          refine k_goto (tgt := 87) dX5_seek_59 rfl ?_
          refine k_iinc (pc' := 90) (v := nI (made + 1)) dX5_seek_87 rfl (nI_inc _) (Nat.le_of_ble_eq_true rfl) rfl ?_
          refine k_goto (tgt := 13) dX5_seek_90 rfl ?_
          exact ih (made + 1) (s + 1) true u2 (by omega) (by omega) (by omega) hr
        rw [if_neg h1] at hr
        by_cases h2 : ∀ p, p < P → u2.2.2 p = 0
        · rw [if_pos h2] at hr
          refine k_iload_n (pc' := 46) dX5_seek_45 rfl ?_
          refine k_aload_n (pc' := 47) dX5_seek_46 rfl ?_
          refine p_get (pc' := 50) clX5 (Nat.le_of_ble_eq_true rfl) fl_RX5_25 dX5_seek_47 (by first | assumption | decide | omega) pS61 rfl ?_
          refine k_icmp_ge (tgt := 62) (pc' := 53) dX5_seek_50 rfl (fun _ => ?_) (fun zz_ => absurd (nI_le (by omega) (by omega)) zz_)
          refine k_aload_n (pc' := 63) dX5_seek_62 rfl ?_
          refine p_vI (ν := mX5_nothingLeft) (pc' := 66) dX5_seek_63 ml_RX5_40 mo_X5_nothingLeft mv_X5_nothingLeft clX5 (Nat.le_of_ble_eq_true rfl) rfl rfl (Nat.le_of_ble_eq_true rfl) (by first | assumption | decide | omega) pS61 (by decide) (c_nothingLeft hP) ?_
          refine k_if_eq (tgt := 72) (pc' := 69) dX5_seek_66 rfl (fun zz_ => absurd zz_ (by rw [bI_eq]; exact fun q => q h2)) (fun _ => ?_)
          refine k_iload (pc' := 71) dX5_seek_69 rfl ?_
          refine p_ireturn dX5_seek_71 rfl ?_
          rw [← hr]
          exact ⟨rfl, rfl⟩
        rw [if_neg h2] at hr
        have hl2 := lAb_le (nu := u2.1) L
        by_cases h3 : lAb u2.1 L = 0
        · rw [if_pos h3] at hr
          refine k_iload_n (pc' := 46) dX5_seek_45 rfl ?_
          refine k_aload_n (pc' := 47) dX5_seek_46 rfl ?_
          refine p_get (pc' := 50) clX5 (Nat.le_of_ble_eq_true rfl) fl_RX5_25 dX5_seek_47 (by first | assumption | decide | omega) pS61 rfl ?_
          refine k_icmp_ge (tgt := 62) (pc' := 53) dX5_seek_50 rfl (fun _ => ?_) (fun zz_ => absurd (nI_le (by omega) (by omega)) zz_)
          refine k_aload_n (pc' := 63) dX5_seek_62 rfl ?_
          refine p_vI (ν := mX5_nothingLeft) (pc' := 66) dX5_seek_63 ml_RX5_40 mo_X5_nothingLeft mv_X5_nothingLeft clX5 (Nat.le_of_ble_eq_true rfl) rfl rfl (Nat.le_of_ble_eq_true rfl) (by first | assumption | decide | omega) pS61 (by decide) (c_nothingLeft hP) ?_
          refine k_if_eq (tgt := 72) (pc' := 69) dX5_seek_66 rfl (fun _ => ?_) (fun zz_ => absurd (by rw [bI_eq]; exact h2) zz_)
          refine k_aload_n (pc' := 73) dX5_seek_72 rfl ?_
          refine p_vI (ν := mX5_latestAbove0) (pc' := 76) dX5_seek_73 ml_RX5_44 mo_X5_latestAbove0 mv_X5_latestAbove0 clX5 (Nat.le_of_ble_eq_true rfl) rfl rfl (Nat.le_of_ble_eq_true rfl) (by first | assumption | decide | omega) pS61 (by decide) (c_latestAbove0 (by omega)) ?_
          refine k_istore_n (pc' := 77) dX5_seek_76 (Nat.le_of_ble_eq_true rfl) rfl ?_
          refine k_iconst (pc' := 78) (v := nI 0) dX5_seek_77 rfl ?_
          refine k_istore (pc' := 80) dX5_seek_78 (Nat.le_of_ble_eq_true rfl) rfl ?_
          refine k_iload_n (pc' := 81) dX5_seek_80 rfl ?_
          refine k_if_ne (tgt := 87) (pc' := 84) dX5_seek_81 rfl (fun zz_ => absurd (by rw [h3]; rfl) zz_) (fun _ => ?_)
          refine k_bipush (pc' := 86) (v := -2) dX5_seek_84 rfl ?_
          refine p_ireturn dX5_seek_86 rfl ?_
          rw [← hr]
          exact ⟨rfl, rfl⟩
        · rw [if_neg h3] at hr
          refine k_iload_n (pc' := 46) dX5_seek_45 rfl ?_
          refine k_aload_n (pc' := 47) dX5_seek_46 rfl ?_
          refine p_get (pc' := 50) clX5 (Nat.le_of_ble_eq_true rfl) fl_RX5_25 dX5_seek_47 (by first | assumption | decide | omega) pS61 rfl ?_
          refine k_icmp_ge (tgt := 62) (pc' := 53) dX5_seek_50 rfl (fun _ => ?_) (fun zz_ => absurd (nI_le (by omega) (by omega)) zz_)
          refine k_aload_n (pc' := 63) dX5_seek_62 rfl ?_
          refine p_vI (ν := mX5_nothingLeft) (pc' := 66) dX5_seek_63 ml_RX5_40 mo_X5_nothingLeft mv_X5_nothingLeft clX5 (Nat.le_of_ble_eq_true rfl) rfl rfl (Nat.le_of_ble_eq_true rfl) (by first | assumption | decide | omega) pS61 (by decide) (c_nothingLeft hP) ?_
          refine k_if_eq (tgt := 72) (pc' := 69) dX5_seek_66 rfl (fun _ => ?_) (fun zz_ => absurd (by rw [bI_eq]; exact h2) zz_)
          refine k_aload_n (pc' := 73) dX5_seek_72 rfl ?_
          refine p_vI (ν := mX5_latestAbove0) (pc' := 76) dX5_seek_73 ml_RX5_44 mo_X5_latestAbove0 mv_X5_latestAbove0 clX5 (Nat.le_of_ble_eq_true rfl) rfl rfl (Nat.le_of_ble_eq_true rfl) (by first | assumption | decide | omega) pS61 (by decide) (c_latestAbove0 (by omega)) ?_
          refine k_istore_n (pc' := 77) dX5_seek_76 (Nat.le_of_ble_eq_true rfl) rfl ?_
          refine k_iconst (pc' := 78) (v := nI 0) dX5_seek_77 rfl ?_
          refine k_istore (pc' := 80) dX5_seek_78 (Nat.le_of_ble_eq_true rfl) rfl ?_
          refine k_iload_n (pc' := 81) dX5_seek_80 rfl ?_
          refine k_if_ne (tgt := 87) (pc' := 84) dX5_seek_81 rfl (fun _ => ?_) (fun zz_ => absurd zz_ (nI_ne0 (by omega) (by omega)))
          refine k_iinc (pc' := 90) (v := nI (made + 1)) dX5_seek_87 rfl (nI_inc _) (Nat.le_of_ble_eq_true rfl) rfl ?_
          refine k_goto (tgt := 13) dX5_seek_90 rfl ?_
          exact ih (made + 1) (lAb u2.1 L) false u2 (by omega) (by omega) (by omega) hr
      cases fr with
      | true =>
        rw [if_pos rfl] at hv
        refine k_iload (pc' := 15) dX5_seek_13 rfl ?_
        refine k_iload_n (pc' := 16) dX5_seek_15 rfl ?_
        refine k_icmp_gt (tgt := 93) (pc' := 19) dX5_seek_16 rfl (fun zz_ => absurd zz_ (nI_nlt (by omega) (by omega))) (fun _ => ?_)
        refine k_aload_n (pc' := 20) dX5_seek_19 rfl ?_
        refine k_iload_n (pc' := 21) dX5_seek_20 rfl ?_
        refine k_iload (pc' := 23) dX5_seek_21 rfl ?_
        refine k_if_eq (tgt := 34) (pc' := 26) dX5_seek_23 rfl (fun zz_ => absurd zz_ (by decide)) (fun _ => ?_)
        refine k_aload_n (pc' := 27) dX5_seek_26 rfl ?_
        refine k_iload_n (pc' := 28) dX5_seek_27 rfl ?_
        refine p_vI (ν := mX5_leastLeft) (pc' := 31) dX5_seek_28 ml_RX5_32 mo_X5_leastLeft mv_X5_leastLeft clX5 (Nat.le_of_ble_eq_true rfl) rfl rfl (Nat.le_of_ble_eq_true rfl) (by first | assumption | decide | omega) pS61 (by decide) (c_leastLeft hP (by omega)) ?_
        refine k_goto (tgt := 42) dX5_seek_31 rfl ?_
        rw [hv] at rest
        exact rest
      | false =>
        rw [if_neg (by decide)] at hv
        refine k_iload (pc' := 15) dX5_seek_13 rfl ?_
        refine k_iload_n (pc' := 16) dX5_seek_15 rfl ?_
        refine k_icmp_gt (tgt := 93) (pc' := 19) dX5_seek_16 rfl (fun zz_ => absurd zz_ (nI_nlt (by omega) (by omega))) (fun _ => ?_)
        refine k_aload_n (pc' := 20) dX5_seek_19 rfl ?_
        refine k_iload_n (pc' := 21) dX5_seek_20 rfl ?_
        refine k_iload (pc' := 23) dX5_seek_21 rfl ?_
        refine k_if_eq (tgt := 34) (pc' := 26) dX5_seek_23 rfl (fun _ => ?_) (fun zz_ => absurd rfl zz_)
        refine k_aload_n (pc' := 35) dX5_seek_34 rfl ?_
        refine p_get (pc' := 38) clX5 (Nat.le_of_ble_eq_true rfl) fl_RX5_9 dX5_seek_35 (by first | assumption | decide | omega) pS61 rfl ?_
        refine k_iload_n (pc' := 39) dX5_seek_38 rfl ?_
        refine p_ialdN (pc' := 40) dX5_seek_39 (by first | assumption | decide | omega) pS62 (by first | decide | omega) (by omega) ?_
        refine k_iconst (pc' := 41) (v := nI 1) dX5_seek_40 rfl ?_
        refine k_isub (pc' := 42) (v := u.1 s - nI 1) dX5_seek_41 rfl ?_
        rw [hv] at rest
        exact rest
  exact main mo 1 1 true _ (by omega) (by decide) (by omega) hO.symm
theorem pS_pS {P L P2 L2 : Nat} {w w2 : SS} : putS G (putS G σ P L w) P2 L2 w2 = putS G σ P2 L2 w2 := by
  funext q
  by_cases h : q < 61 ∨ 64 < q
  · rw [pSn (by omega), pSn (by omega), pSn (by omega)]
  · have h2 : q = 61 ∨ q = 62 ∨ q = 63 ∨ q = 64 := by omega
    rcases h2 with h2 | h2 | h2 | h2
    · subst h2; rfl
    · subst h2; rfl
    · subst h2; rfl
    · subst h2; rfl
theorem isX.sums {P L : Nat} {w : SS} (h : isX G σ A B C I H T) : isX G (putS G σ P L w) A B C I H T := by
  have n1 : ∀ q, q < 61 ∨ 64 < q → putS G σ P L w q = σ q := fun q hq => pSn (by omega)
  refine h.scr (fun q a _ _ => n1 q (by omega)) ?_ ?_
  · obtain ⟨M0, g0, h3⟩ := h.2.2.1
    exact ⟨M0, g0, h3.loc (n1 _ (by decide)) (n1 _ (by decide))⟩
  · obtain ⟨⟨s1, hs1⟩, ⟨st0, N0, m0, w0, hw0, h54, ⟨M0, f0, hT⟩, z1, z2⟩, -, ⟨C', w4, hw4, h66⟩⟩ := h.2.2.2.2.2.2.2.2.2.2
    exact ⟨⟨s1, putSp.loc hs1 (n1 _ (by decide)) (n1 _ (by decide))⟩, ⟨st0, N0, m0, w0, putW.loc hw0 (fun q a b => n1 q (by omega)), (n1 _ (by decide)).trans h54, ⟨M0, f0, hT.loc (n1 _ (by decide)) (n1 _ (by decide))⟩, z1, z2⟩, ⟨P, L, w, pS_pS⟩, ⟨C', w4, putR.loc hw4 (fun q a b => n1 q (by omega)), (n1 _ (by decide)).trans h66⟩⟩
theorem x_sum (h : isX G σ A B C I H T) {x y : Int32} : ConP G mX9_sum 5 [.ref (adr G 0), .int x, .int y] σ (fun v σ' => (¬ ((1 ≤ x.toInt ∧ x.toInt ≤ 9999) ∧ (-1 ≤ y.toInt ∧ y.toInt ≤ lC A.1)) ∧ xI G σ (-1) A B C I H T v σ') ∨ ∃ mo, x = nI mo ∧ 1 ≤ mo ∧ mo ≤ 9999 ∧ (-1 ≤ y.toInt ∧ y.toInt ≤ lC A.1) ∧ ∃ w0 R, R = skI (pN A.1) (lC A.1) mo 1 1 true (sst A.1 A.2 w0) ∧ xI G σ (if R.1 < 0 ∨ y = -1 then R.1 else if y = 0 then sTog (lC A.1) R.2.1 else R.2.1 y.toInt.toNat) A B C I H T v σ') := by
  have hX := h
  obtain ⟨x0, x1, -, -, -, -, -, -, -, -, xs⟩ := h
  obtain ⟨-, -, ⟨P, L, w0, hw0⟩, -⟩ := xs
  have e1 := x1.2.2.1
  have e61 : σ 61 = _ := (congrFun hw0 61).symm.trans pS61
  have hl := lC_le x1.2.2.2.2.1 x1.2.2.2.2.2
  generalize hQ : (fun v σ' => (¬ ((1 ≤ x.toInt ∧ x.toInt ≤ 9999) ∧ (-1 ≤ y.toInt ∧ y.toInt ≤ lC A.1)) ∧ xI G σ (-1) A B C I H T v σ') ∨ ∃ mo, x = nI mo ∧ 1 ≤ mo ∧ mo ≤ 9999 ∧ (-1 ≤ y.toInt ∧ y.toInt ≤ lC A.1) ∧ ∃ w0 R, R = skI (pN A.1) (lC A.1) mo 1 1 true (sst A.1 A.2 w0) ∧ xI G σ (if R.1 < 0 ∨ y = -1 then R.1 else if y = 0 then sTog (lC A.1) R.2.1 else R.2.1 y.toInt.toNat) A B C I H T v σ') = Qf
  refine ConP.of rfl (Nat.le_of_ble_eq_true rfl) ?_
  refine k_iload_n (pc' := 1) dX9_sum_0 rfl ?_
  refine k_iconst (pc' := 2) (v := nI 1) dX9_sum_1 rfl ?_
  refine k_icmp_lt (tgt := 32) (pc' := 5) dX9_sum_2 rfl (fun c_2 => ?_) (fun c_2 => ?_)
  · rw [iLt, nI_e (by decide)] at c_2
    refine k_iconst (pc' := 33) (v := -1) dX9_sum_32 rfl ?_
    refine p_ireturn dX9_sum_33 rfl ?_
    rw [← hQ]
    exact Or.inl ⟨fun q => by omega, rfl, hX, hi.rfl'⟩
  rw [iLt, nI_e (by decide)] at c_2
  refine k_iload_n (pc' := 6) dX9_sum_5 rfl ?_
  refine k_sipush (pc' := 9) (v := nI 9999) dX9_sum_6 rfl ?_
  refine k_icmp_gt (tgt := 32) (pc' := 12) dX9_sum_9 rfl (fun c_9 => ?_) (fun c_9 => ?_)
  · rw [iLt, nI_e (by decide)] at c_9
    refine k_iconst (pc' := 33) (v := -1) dX9_sum_32 rfl ?_
    refine p_ireturn dX9_sum_33 rfl ?_
    rw [← hQ]
    exact Or.inl ⟨fun q => by omega, rfl, hX, hi.rfl'⟩
  rw [iLt, nI_e (by decide)] at c_9
  obtain ⟨mo, hmo, hxm⟩ := nI_in0 (n := 10000) (x := x) (by omega) (by omega) (by decide)
  have hmo1 : 1 ≤ mo := by
    rw [hxm, nI_e (by omega)] at c_2
    omega
  have main : (-1 ≤ y.toInt ∧ y.toInt ≤ lC A.1) → OkP G mX9_sum 5 Qf 34 [some (.ref (adr G 0)), some (.int x), some (.int y), none] [] σ := by
    intro hy
    have con := c_seek (G := G) (σ := σ) (P0 := P) (L0 := L) (w := w0) (t := 1) x1 (by decide) hmo
    rw [hw0, ← hxm] at con
    obtain ⟨R, hR⟩ : ∃ R, R = skI (pN A.1) (lC A.1) mo 1 1 true (sst A.1 A.2 w0) := ⟨_, rfl⟩
    rw [← hR] at con
    have zX : isX G (putS G σ (pN A.1) (lC A.1) R.2) A B C I H T := hX.sums
    have z0 := zX.1
    have zh : hi σ (putS G σ (pN A.1) (lC A.1) R.2) := fun q hq => pSn (by omega)
    have done : ∀ v, v = (if R.1 < 0 ∨ y = -1 then R.1 else if y = 0 then sTog (lC A.1) R.2.1 else R.2.1 y.toInt.toNat) → Qf (some (.int v)) (putS G σ (pN A.1) (lC A.1) R.2) := by
      intro v hv
      rw [← hQ]
      exact Or.inr ⟨mo, hxm, hmo1, by omega, hy, w0, R, hR, by rw [hv], zX, zh⟩
    by_cases h1 : R.1 < 0
    · refine k_aload_n (pc' := 35) dX9_sum_34 rfl ?_
      refine p_get (pc' := 38) clX9 (Nat.le_of_ble_eq_true rfl) fl_RX9_75 dX9_sum_35 (by first | assumption | decide | omega) (by assumption) rfl ?_
      refine k_aload_n (pc' := 39) dX9_sum_38 rfl ?_
      refine p_get (pc' := 42) clX9 (Nat.le_of_ble_eq_true rfl) fl_RX9_12 dX9_sum_39 (by first | assumption | decide | omega) (by assumption) rfl ?_
      refine k_iload_n (pc' := 43) dX9_sum_42 rfl ?_
      refine p_vI (ν := mX5_seek) (pc' := 46) dX9_sum_43 ml_RX9_258 mo_X5_seek mv_X5_seek clX5 (Nat.le_of_ble_eq_true rfl) rfl rfl (Nat.le_of_ble_eq_true rfl) (by first | assumption | decide | omega) e61 (by decide) (con) ?_
      refine k_istore_n (pc' := 47) dX9_sum_46 (Nat.le_of_ble_eq_true rfl) rfl ?_
      refine k_iload_n (pc' := 48) dX9_sum_47 rfl ?_
      refine k_if_lt (tgt := 56) (pc' := 51) dX9_sum_48 rfl (fun _ => ?_) (fun zz_ => absurd h1 zz_)
      refine k_iload_n (pc' := 57) dX9_sum_56 rfl ?_
      refine p_ireturn dX9_sum_57 rfl ?_
      exact done _ (by rw [if_pos (Or.inl h1)])
    by_cases h2 : y = -1
    · refine k_aload_n (pc' := 35) dX9_sum_34 rfl ?_
      refine p_get (pc' := 38) clX9 (Nat.le_of_ble_eq_true rfl) fl_RX9_75 dX9_sum_35 (by first | assumption | decide | omega) (by assumption) rfl ?_
      refine k_aload_n (pc' := 39) dX9_sum_38 rfl ?_
      refine p_get (pc' := 42) clX9 (Nat.le_of_ble_eq_true rfl) fl_RX9_12 dX9_sum_39 (by first | assumption | decide | omega) (by assumption) rfl ?_
      refine k_iload_n (pc' := 43) dX9_sum_42 rfl ?_
      refine p_vI (ν := mX5_seek) (pc' := 46) dX9_sum_43 ml_RX9_258 mo_X5_seek mv_X5_seek clX5 (Nat.le_of_ble_eq_true rfl) rfl rfl (Nat.le_of_ble_eq_true rfl) (by first | assumption | decide | omega) e61 (by decide) (con) ?_
      refine k_istore_n (pc' := 47) dX9_sum_46 (Nat.le_of_ble_eq_true rfl) rfl ?_
      refine k_iload_n (pc' := 48) dX9_sum_47 rfl ?_
      refine k_if_lt (tgt := 56) (pc' := 51) dX9_sum_48 rfl (fun zz_ => absurd zz_ h1) (fun _ => ?_)
      refine k_iload_n (pc' := 52) dX9_sum_51 rfl ?_
      refine k_iconst (pc' := 53) (v := -1) dX9_sum_52 rfl ?_
      refine k_icmp_ne (tgt := 58) (pc' := 56) dX9_sum_53 rfl (fun zz_ => absurd h2 zz_) (fun _ => ?_)
      refine k_iload_n (pc' := 57) dX9_sum_56 rfl ?_
      refine p_ireturn dX9_sum_57 rfl ?_
      exact done _ (by rw [if_pos (Or.inr h2)])
    have h12 : ¬ (R.1 < 0 ∨ y = -1) := fun q => q.elim h1 h2
    by_cases h3 : y = 0
    · refine k_aload_n (pc' := 35) dX9_sum_34 rfl ?_
      refine p_get (pc' := 38) clX9 (Nat.le_of_ble_eq_true rfl) fl_RX9_75 dX9_sum_35 (by first | assumption | decide | omega) (by assumption) rfl ?_
      refine k_aload_n (pc' := 39) dX9_sum_38 rfl ?_
      refine p_get (pc' := 42) clX9 (Nat.le_of_ble_eq_true rfl) fl_RX9_12 dX9_sum_39 (by first | assumption | decide | omega) (by assumption) rfl ?_
      refine k_iload_n (pc' := 43) dX9_sum_42 rfl ?_
      refine p_vI (ν := mX5_seek) (pc' := 46) dX9_sum_43 ml_RX9_258 mo_X5_seek mv_X5_seek clX5 (Nat.le_of_ble_eq_true rfl) rfl rfl (Nat.le_of_ble_eq_true rfl) (by first | assumption | decide | omega) e61 (by decide) (con) ?_
      refine k_istore_n (pc' := 47) dX9_sum_46 (Nat.le_of_ble_eq_true rfl) rfl ?_
      refine k_iload_n (pc' := 48) dX9_sum_47 rfl ?_
      refine k_if_lt (tgt := 56) (pc' := 51) dX9_sum_48 rfl (fun zz_ => absurd zz_ h1) (fun _ => ?_)
      refine k_iload_n (pc' := 52) dX9_sum_51 rfl ?_
      refine k_iconst (pc' := 53) (v := -1) dX9_sum_52 rfl ?_
      refine k_icmp_ne (tgt := 58) (pc' := 56) dX9_sum_53 rfl (fun _ => ?_) (fun zz_ => absurd zz_ h2)
      refine k_iload_n (pc' := 59) dX9_sum_58 rfl ?_
      refine k_if_ne (tgt := 72) (pc' := 62) dX9_sum_59 rfl (fun zz_ => absurd h3 zz_) (fun _ => ?_)
      refine k_aload_n (pc' := 63) dX9_sum_62 rfl ?_
      refine p_get (pc' := 66) clX9 (Nat.le_of_ble_eq_true rfl) fl_RX9_75 dX9_sum_63 (by first | assumption | decide | omega) (by assumption) rfl ?_
      refine p_vI (ν := mX5_together) (pc' := 69) dX9_sum_66 ml_RX9_262 mo_X5_together mv_X5_together clX5 (Nat.le_of_ble_eq_true rfl) rfl rfl (Nat.le_of_ble_eq_true rfl) (by first | assumption | decide | omega) pS61 (by decide) (c_sTogether (by omega)) ?_
      refine k_goto (tgt := 81) dX9_sum_69 rfl ?_
      refine p_ireturn dX9_sum_81 rfl ?_
      exact done _ (by rw [if_neg h12, if_pos h3])
    · obtain ⟨s, hs, hys⟩ := nI_in0 (n := 32) (x := y) (by rw [iEq, im1] at h2; omega) (by omega) (by decide)
      have hys' : y.toInt.toNat = s := by rw [hys, nI_e (by omega)]; rfl
      rw [if_neg h12, if_neg h3, hys'] at done
      rw [hys] at h2 h3 ⊢
      refine k_aload_n (pc' := 35) dX9_sum_34 rfl ?_
      refine p_get (pc' := 38) clX9 (Nat.le_of_ble_eq_true rfl) fl_RX9_75 dX9_sum_35 (by first | assumption | decide | omega) (by assumption) rfl ?_
      refine k_aload_n (pc' := 39) dX9_sum_38 rfl ?_
      refine p_get (pc' := 42) clX9 (Nat.le_of_ble_eq_true rfl) fl_RX9_12 dX9_sum_39 (by first | assumption | decide | omega) (by assumption) rfl ?_
      refine k_iload_n (pc' := 43) dX9_sum_42 rfl ?_
      refine p_vI (ν := mX5_seek) (pc' := 46) dX9_sum_43 ml_RX9_258 mo_X5_seek mv_X5_seek clX5 (Nat.le_of_ble_eq_true rfl) rfl rfl (Nat.le_of_ble_eq_true rfl) (by first | assumption | decide | omega) e61 (by decide) (con) ?_
      refine k_istore_n (pc' := 47) dX9_sum_46 (Nat.le_of_ble_eq_true rfl) rfl ?_
      refine k_iload_n (pc' := 48) dX9_sum_47 rfl ?_
      refine k_if_lt (tgt := 56) (pc' := 51) dX9_sum_48 rfl (fun zz_ => absurd zz_ h1) (fun _ => ?_)
      refine k_iload_n (pc' := 52) dX9_sum_51 rfl ?_
      refine k_iconst (pc' := 53) (v := -1) dX9_sum_52 rfl ?_
      refine k_icmp_ne (tgt := 58) (pc' := 56) dX9_sum_53 rfl (fun _ => ?_) (fun zz_ => absurd zz_ h2)
      refine k_iload_n (pc' := 59) dX9_sum_58 rfl ?_
      refine k_if_ne (tgt := 72) (pc' := 62) dX9_sum_59 rfl (fun _ => ?_) (fun zz_ => absurd zz_ h3)
      refine k_aload_n (pc' := 73) dX9_sum_72 rfl ?_
      refine p_get (pc' := 76) clX9 (Nat.le_of_ble_eq_true rfl) fl_RX9_75 dX9_sum_73 (by first | assumption | decide | omega) (by assumption) rfl ?_
      refine p_get (pc' := 79) clX5 (Nat.le_of_ble_eq_true rfl) fl_RX9_265 dX9_sum_76 (by first | assumption | decide | omega) pS61 rfl ?_
      refine k_iload_n (pc' := 80) dX9_sum_79 rfl ?_
      refine p_ialdN (pc' := 81) dX9_sum_80 (by first | assumption | decide | omega) pS62 (by first | decide | omega) (by omega) ?_
      refine p_ireturn dX9_sum_81 rfl ?_
      exact done _ rfl
  refine k_iload_n (pc' := 13) dX9_sum_12 rfl ?_
  refine k_iconst (pc' := 14) (v := -1) dX9_sum_13 rfl ?_
  refine k_icmp_eq (tgt := 34) (pc' := 17) dX9_sum_14 rfl (fun c_14 => ?_) (fun c_14 => ?_)
  · exact main (by rw [c_14]; exact ⟨by decide, by rw [im1]; omega⟩)
  refine k_iload_n (pc' := 18) dX9_sum_17 rfl ?_
  refine k_if_eq (tgt := 34) (pc' := 21) dX9_sum_18 rfl (fun c_18 => ?_) (fun c_18 => ?_)
  · exact main (by rw [c_18]; exact ⟨by decide, by rw [i0]; omega⟩)
  refine k_aload_n (pc' := 22) dX9_sum_21 rfl ?_
  refine p_get (pc' := 25) clX9 (Nat.le_of_ble_eq_true rfl) fl_RX9_12 dX9_sum_22 (by first | assumption | decide | omega) (by assumption) rfl ?_
  refine k_iload_n (pc' := 26) dX9_sum_25 rfl ?_
  refine p_vI (ν := mX6_hasCut) (pc' := 29) dX9_sum_26 ml_RX9_124 mo_X6_hasCut mv_X6_hasCut clX6 (Nat.le_of_ble_eq_true rfl) rfl rfl (Nat.le_of_ble_eq_true rfl) (by first | assumption | decide | omega) (by assumption) (by decide) (c_hasCut x1 y) ?_
  refine k_if_ne (tgt := 34) (pc' := 32) dX9_sum_29 rfl (fun c_29 => ?_) (fun c_29 => ?_)
  · rw [bI_ne] at c_29
    exact main ⟨by omega, c_29.2⟩
  · rw [bI_eq] at c_29
    refine k_iconst (pc' := 33) (v := -1) dX9_sum_32 rfl ?_
    refine p_ireturn dX9_sum_33 rfl ?_
    rw [← hQ]
    refine Or.inl ⟨fun q => c_29 ⟨?_, q.2.2⟩, rfl, hX, hi.rfl'⟩
    rw [iEq, im1] at c_14
    rw [iEq, i0] at c_18
    omega
end X13
