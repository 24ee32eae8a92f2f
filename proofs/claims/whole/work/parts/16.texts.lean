/-! Tape: the object at 44, its bytes at 45 -/
def putTp (G : GT) (σ : Sto) (S sp : Nat) (by' : Nat → Int32) : Sto := va_up (va_up σ 44 (ob 7 [.ref (adr G 45), .int (nI S), .int (nI sp)])) 45 (aI G 80 by')
def bA (S : Nat) (by' : Nat → Int32) (i : Nat) : Int32 := if i < S then by' i else -1
def fA (S : Nat) (by' : Nat → Int32) (i : Nat) : Int32 := if nI 48 ≤ bA S by' i ∧ bA S by' i ≤ nI 57 then bA S by' i - nI 48 else -1
/-- up to n figures more -/
def tF (S : Nat) (by' : Nat → Int32) : Nat → Int32 → Nat → Int32 × Nat
  | 0, v, sp => (v, sp)
  | n + 1, v, sp => if fA S by' sp < 0 then (v, sp) else tF S by' n (nI 10 * v + fA S by' sp) (sp + 1)
abbrev PS : Type := (Nat → Int32) × Nat × Bool
def pr1 (N S : Nat) (by' : Nat → Int32) (i j : Nat) (a : PS) : PS := if a.2.2 = true then a else
  if bA S by' a.2.1 = (if j = 0 then nI 59 else nI 44) then
    (if fA S by' (a.2.1 + 1) < 0 then (a.1, a.2.1 + 1, true) else (upd a.1 (pI N j i) (tF S by' 3 (nI 0) (a.2.1 + 1)).1, (tF S by' 3 (nI 0) (a.2.1 + 1)).2, false))
  else (a.1, a.2.1, true)
def pr2 (N S : Nat) (by' : Nat → Int32) (i : Nat) (a : PS) : PS := upn i 0 (pr1 N S by' i) a
def prs (N S : Nat) (by' : Nat → Int32) (far : Nat → Int32) : PS := upn (N - 1) 1 (pr2 N S by') (zf 15 far, 1, false)
section TAPE
variable {G : GT} {σ : Sto} {S sp : Nat} {by' : Nat → Int32}
theorem pT44 : putTp G σ S sp by' 44 = ob 7 [.ref (adr G 45), .int (nI S), .int (nI sp)] := rfl
theorem pT45 : putTp G σ S sp by' 45 = aI G 80 by' := rfl
theorem pTn {q : Nat} (h : q ≠ 44) (h2 : q ≠ 45) : putTp G σ S sp by' q = σ q := by unfold putTp; rw [up_n h2, up_n h]
theorem pT_T {t M : Nat} {f : Nat → Int32} (h : isT G σ t M f) (ht : t + 1 < 44 ∨ 45 < t) : isT G (putTp G σ S sp by') t M f := ⟨h.1, h.2.1, (pTn (by omega) (by omega)).trans h.2.2.1, (pTn (by omega) (by omega)).trans h.2.2.2.1, h.2.2.2.2⟩
theorem pT_o {S2 sp2 : Nat} : va_up (putTp G σ S sp by') 44 (ob 7 [.ref (adr G 45), .int (nI S2), .int (nI sp2)]) = putTp G σ S2 sp2 by' := by
  unfold putTp
  rw [up_c (k := 45) (j := 44) (by decide), up_up]
theorem pT_b {b : Nat → Int32} : va_up (putTp G σ S sp by') 45 (aI G 80 b) = putTp G σ S sp b := up_up
theorem pT_putT {t N : Nat} {f : Nat → Int32} (ht : t + 1 < 44) : putT G (putTp G σ S sp by') t N f = putTp G (putT G σ t N f) S sp by' := by
  funext q
  by_cases h : q = t
  · subst h; rw [putT_t, pTn (by omega) (by omega), putT_t]
  · by_cases h2 : q = t + 1
    · subst h2; rw [putT_f, pTn (by omega) (by omega), putT_f]
    · rw [putT_n h h2]
      by_cases h3 : q = 44
      · subst h3; rw [pT44, pT44]
      · by_cases h4 : q = 45
        · subst h4; rw [pT45, pT45]
        · rw [pTn h3 h4, pTn h3 h4, putT_n h h2]
theorem c_tpAppend (hS : S ≤ 80) {b : Int32} : ConP G mX7_append 1 [.ref (adr G 44), .int b] (putTp G σ S sp by') (rV (if S < 80 then putTp G σ (S + 1) sp (upd by' S b) else putTp G σ S sp by')) := by
  refine ConP.of rfl (Nat.le_of_ble_eq_true rfl) ?_
  by_cases h : S < 80
  · rw [if_pos h]
    refine k_aload_n (pc' := 1) dX7_append_0 rfl ?_
    refine p_get (pc' := 4) clX7 (Nat.le_of_ble_eq_true rfl) fl_RX7_15 dX7_append_1 (by first | assumption | decide | omega) pT44 rfl ?_
    refine k_bipush (pc' := 6) (v := nI 80) dX7_append_4 rfl ?_
    refine k_icmp_ge (tgt := 29) (pc' := 9) dX7_append_6 rfl (fun zz_ => absurd zz_ (nI_ge (by omega) (by omega))) (fun _ => ?_)
    refine k_aload_n (pc' := 10) dX7_append_9 rfl ?_
    refine p_get (pc' := 13) clX7 (Nat.le_of_ble_eq_true rfl) fl_RX7_9 dX7_append_10 (by first | assumption | decide | omega) pT44 rfl ?_
    refine k_aload_n (pc' := 14) dX7_append_13 rfl ?_
    refine p_get (pc' := 17) clX7 (Nat.le_of_ble_eq_true rfl) fl_RX7_15 dX7_append_14 (by first | assumption | decide | omega) pT44 rfl ?_
    refine k_iload_n (pc' := 18) dX7_append_17 rfl ?_
    refine p_iastN (pc' := 19) (σ1 := putTp G σ S sp (upd by' S b)) dX7_append_18 (by first | assumption | decide | omega) pT45 (by first | decide | omega) (by omega) (by exact pT_b) ?_
    refine k_aload_n (pc' := 20) dX7_append_19 rfl ?_
    refine k_dup (pc' := 21) dX7_append_20 rfl ?_
    refine p_get (pc' := 24) clX7 (Nat.le_of_ble_eq_true rfl) fl_RX7_15 dX7_append_21 (by first | assumption | decide | omega) pT44 rfl ?_
    refine k_iconst (pc' := 25) (v := nI 1) dX7_append_24 rfl ?_
    refine k_iadd (pc' := 26) (v := nI (S + 1)) dX7_append_25 (nI_add _ _) ?_
    refine p_putI (pc' := 29) (σ1 := putTp G σ (S + 1) sp (upd by' S b)) clX7 (Nat.le_of_ble_eq_true rfl) fl_RX7_15 dX7_append_26 rfl (Or.inl rfl) (by first | assumption | decide | omega) pT44 (Nat.le_of_ble_eq_true rfl) (by exact pT_o) ?_
    refine p_return dX7_append_29 rfl ?_
    exact ⟨rfl, rfl⟩
  · rw [if_neg h]
    refine k_aload_n (pc' := 1) dX7_append_0 rfl ?_
    refine p_get (pc' := 4) clX7 (Nat.le_of_ble_eq_true rfl) fl_RX7_15 dX7_append_1 (by first | assumption | decide | omega) pT44 rfl ?_
    refine k_bipush (pc' := 6) (v := nI 80) dX7_append_4 rfl ?_
    refine k_icmp_ge (tgt := 29) (pc' := 9) dX7_append_6 rfl (fun _ => ?_) (fun zz_ => absurd (nI_le (by omega) (by omega)) zz_)
    refine p_return dX7_append_29 rfl ?_
    exact ⟨rfl, rfl⟩
theorem c_byteAt (hS : S ≤ 80) {i : Nat} (hi : i < 2 ^ 31) : ConP G mX7_byteAt 1 [.ref (adr G 44), .int (nI i)] (putTp G σ S sp by') (rI (bA S by' i) (putTp G σ S sp by')) := by
  refine ConP.of rfl (Nat.le_of_ble_eq_true rfl) ?_
  by_cases h : i < S
  · refine k_iload_n (pc' := 1) dX7_byteAt_0 rfl ?_
    refine k_if_lt (tgt := 21) (pc' := 4) dX7_byteAt_1 rfl (fun zz_ => absurd zz_ (nI_pos (by omega))) (fun _ => ?_)
    refine k_iload_n (pc' := 5) dX7_byteAt_4 rfl ?_
    refine k_aload_n (pc' := 6) dX7_byteAt_5 rfl ?_
    refine p_get (pc' := 9) clX7 (Nat.le_of_ble_eq_true rfl) fl_RX7_15 dX7_byteAt_6 (by first | assumption | decide | omega) pT44 rfl ?_
    refine k_icmp_ge (tgt := 21) (pc' := 12) dX7_byteAt_9 rfl (fun zz_ => absurd zz_ (nI_ge (by omega) (by omega))) (fun _ => ?_)
    refine k_aload_n (pc' := 13) dX7_byteAt_12 rfl ?_
    refine p_get (pc' := 16) clX7 (Nat.le_of_ble_eq_true rfl) fl_RX7_9 dX7_byteAt_13 (by first | assumption | decide | omega) pT44 rfl ?_
    refine k_iload_n (pc' := 17) dX7_byteAt_16 rfl ?_
    refine p_ialdN (pc' := 18) dX7_byteAt_17 (by first | assumption | decide | omega) pT45 (by first | decide | omega) (by omega) ?_
    refine k_goto (tgt := 22) dX7_byteAt_18 rfl ?_
    refine p_ireturn dX7_byteAt_22 rfl ?_
    exact ⟨by unfold bA; rw [if_pos h], rfl⟩
  · refine k_iload_n (pc' := 1) dX7_byteAt_0 rfl ?_
    refine k_if_lt (tgt := 21) (pc' := 4) dX7_byteAt_1 rfl (fun zz_ => absurd zz_ (nI_pos (by omega))) (fun _ => ?_)
    refine k_iload_n (pc' := 5) dX7_byteAt_4 rfl ?_
    refine k_aload_n (pc' := 6) dX7_byteAt_5 rfl ?_
    refine p_get (pc' := 9) clX7 (Nat.le_of_ble_eq_true rfl) fl_RX7_15 dX7_byteAt_6 (by first | assumption | decide | omega) pT44 rfl ?_
    refine k_icmp_ge (tgt := 21) (pc' := 12) dX7_byteAt_9 rfl (fun _ => ?_) (fun zz_ => absurd (nI_le (by omega) (by omega)) zz_)
    refine k_iconst (pc' := 22) (v := -1) dX7_byteAt_21 rfl ?_
    refine p_ireturn dX7_byteAt_22 rfl ?_
    exact ⟨by unfold bA; rw [if_neg h], rfl⟩
theorem c_figureAt (hS : S ≤ 80) {i : Nat} (hi : i < 2 ^ 31) : ConP G mX7_figureAt 2 [.ref (adr G 44), .int (nI i)] (putTp G σ S sp by') (rI (fA S by' i) (putTp G σ S sp by')) := by
  refine ConP.of rfl (Nat.le_of_ble_eq_true rfl) ?_
  refine k_aload_n (pc' := 1) dX7_figureAt_0 rfl ?_
  refine k_iload_n (pc' := 2) dX7_figureAt_1 rfl ?_
  refine p_vI (ν := mX7_byteAt) (pc' := 5) dX7_figureAt_2 ml_RX7_32 mo_X7_byteAt mv_X7_byteAt clX7 (Nat.le_of_ble_eq_true rfl) rfl rfl (Nat.le_of_ble_eq_true rfl) (by first | assumption | decide | omega) pT44 (by decide) (c_byteAt hS hi) ?_
  refine k_istore_n (pc' := 6) dX7_figureAt_5 (Nat.le_of_ble_eq_true rfl) rfl ?_
  refine k_iload_n (pc' := 7) dX7_figureAt_6 rfl ?_
  refine k_bipush (pc' := 9) (v := nI 48) dX7_figureAt_7 rfl ?_
  refine k_icmp_lt (tgt := 25) (pc' := 12) dX7_figureAt_9 rfl (fun c_9 => ?_) (fun c_9 => ?_)
  · refine k_iconst (pc' := 26) (v := -1) dX7_figureAt_25 rfl ?_
    refine p_ireturn dX7_figureAt_26 rfl ?_
    exact ⟨by unfold fA; rw [if_neg (fun z => absurd c_9 (Int32.not_lt.mpr z.1))], rfl⟩
  refine k_iload_n (pc' := 13) dX7_figureAt_12 rfl ?_
  refine k_bipush (pc' := 15) (v := nI 57) dX7_figureAt_13 rfl ?_
  refine k_icmp_gt (tgt := 25) (pc' := 18) dX7_figureAt_15 rfl (fun c_15 => ?_) (fun c_15 => ?_)
  · refine k_iconst (pc' := 26) (v := -1) dX7_figureAt_25 rfl ?_
    refine p_ireturn dX7_figureAt_26 rfl ?_
    exact ⟨by unfold fA; rw [if_neg (fun z => absurd c_15 (Int32.not_lt.mpr z.2))], rfl⟩
  refine k_iload_n (pc' := 19) dX7_figureAt_18 rfl ?_
  refine k_bipush (pc' := 21) (v := nI 48) dX7_figureAt_19 rfl ?_
  refine k_isub (pc' := 22) dX7_figureAt_21 rfl ?_
  refine k_goto (tgt := 26) dX7_figureAt_22 rfl ?_
  refine p_ireturn dX7_figureAt_26 rfl ?_
  exact ⟨by unfold fA; rw [if_pos ⟨Int32.not_lt.mp c_9, Int32.not_lt.mp c_15⟩], rfl⟩
theorem c_takeFigures (hS : S ≤ 80) (hsp : sp < 1000) : ConP G mX7_takeFigures 3 [.ref (adr G 44)] (putTp G σ S sp by') (rI (tF S by' 3 (nI 0) sp).1 (putTp G σ S (tF S by' 3 (nI 0) sp).2 by')) := by
  refine ConP.of rfl (Nat.le_of_ble_eq_true rfl) ?_
  refine k_iconst (pc' := 1) (v := nI 0) dX7_takeFigures_0 rfl ?_
  refine k_istore_n (pc' := 2) dX7_takeFigures_1 (Nat.le_of_ble_eq_true rfl) rfl ?_
  refine k_iconst (pc' := 3) (v := nI 0) dX7_takeFigures_2 rfl ?_
  refine k_istore_n (pc' := 4) dX7_takeFigures_3 (Nat.le_of_ble_eq_true rfl) rfl ?_
  have main : ∀ n k v p, k + n = 3 → p < 1000 + k → ∀ r, tF S by' n v p = r → OkP G mX7_takeFigures 3 (rI r.1 (putTp G σ S r.2 by')) 4 [some (.ref (adr G 44)), some (.int v), some (.int (nI k))] [] (putTp G σ S p by') := by
    intro n
    induction n with
    | zero =>
      intro k v p hk hp r hr
      subst hr
      refine k_iload_n (pc' := 5) dX7_takeFigures_4 rfl ?_
      refine k_iconst (pc' := 6) (v := nI 3) dX7_takeFigures_5 rfl ?_
      refine k_icmp_ge (tgt := 50) (pc' := 9) dX7_takeFigures_6 rfl (fun _ => ?_) (fun zz_ => absurd (nI_le (by omega) (by omega)) zz_)
      refine k_iload_n (pc' := 51) dX7_takeFigures_50 rfl ?_
      refine p_ireturn dX7_takeFigures_51 rfl ?_
      exact ⟨rfl, rfl⟩
    | succ n ih =>
      intro k v p hk hp r hr
      unfold tF at hr
      by_cases hc : fA S by' p < 0
      · rw [if_pos hc] at hr
        subst hr
        refine k_iload_n (pc' := 5) dX7_takeFigures_4 rfl ?_
        refine k_iconst (pc' := 6) (v := nI 3) dX7_takeFigures_5 rfl ?_
        refine k_icmp_ge (tgt := 50) (pc' := 9) dX7_takeFigures_6 rfl (fun zz_ => absurd zz_ (nI_ge (by omega) (by omega))) (fun _ => ?_)
        refine k_aload_n (pc' := 10) dX7_takeFigures_9 rfl ?_
        refine k_aload_n (pc' := 11) dX7_takeFigures_10 rfl ?_
        refine p_get (pc' := 14) clX7 (Nat.le_of_ble_eq_true rfl) fl_RX7_19 dX7_takeFigures_11 (by first | assumption | decide | omega) pT44 rfl ?_
        refine p_vI (ν := mX7_figureAt) (pc' := 17) dX7_takeFigures_14 ml_RX7_22 mo_X7_figureAt mv_X7_figureAt clX7 (Nat.le_of_ble_eq_true rfl) rfl rfl (Nat.le_of_ble_eq_true rfl) (by first | assumption | decide | omega) pT44 (by decide) (c_figureAt hS (by omega)) ?_
        refine k_if_lt (tgt := 50) (pc' := 20) dX7_takeFigures_17 rfl (fun _ => ?_) (fun zz_ => absurd hc zz_)
        refine k_iload_n (pc' := 51) dX7_takeFigures_50 rfl ?_
        refine p_ireturn dX7_takeFigures_51 rfl ?_
        exact ⟨rfl, rfl⟩
      · rw [if_neg hc] at hr
        refine k_iload_n (pc' := 5) dX7_takeFigures_4 rfl ?_
        refine k_iconst (pc' := 6) (v := nI 3) dX7_takeFigures_5 rfl ?_
        refine k_icmp_ge (tgt := 50) (pc' := 9) dX7_takeFigures_6 rfl (fun zz_ => absurd zz_ (nI_ge (by omega) (by omega))) (fun _ => ?_)
        refine k_aload_n (pc' := 10) dX7_takeFigures_9 rfl ?_
        refine k_aload_n (pc' := 11) dX7_takeFigures_10 rfl ?_
        refine p_get (pc' := 14) clX7 (Nat.le_of_ble_eq_true rfl) fl_RX7_19 dX7_takeFigures_11 (by first | assumption | decide | omega) pT44 rfl ?_
        refine p_vI (ν := mX7_figureAt) (pc' := 17) dX7_takeFigures_14 ml_RX7_22 mo_X7_figureAt mv_X7_figureAt clX7 (Nat.le_of_ble_eq_true rfl) rfl rfl (Nat.le_of_ble_eq_true rfl) (by first | assumption | decide | omega) pT44 (by decide) (c_figureAt hS (by omega)) ?_
        refine k_if_lt (tgt := 50) (pc' := 20) dX7_takeFigures_17 rfl (fun zz_ => absurd zz_ hc) (fun _ => ?_)
        refine k_bipush (pc' := 22) (v := nI 10) dX7_takeFigures_20 rfl ?_
        refine k_iload_n (pc' := 23) dX7_takeFigures_22 rfl ?_
        refine k_imul (pc' := 24) dX7_takeFigures_23 rfl ?_
        refine k_aload_n (pc' := 25) dX7_takeFigures_24 rfl ?_
        refine k_aload_n (pc' := 26) dX7_takeFigures_25 rfl ?_
        refine p_get (pc' := 29) clX7 (Nat.le_of_ble_eq_true rfl) fl_RX7_19 dX7_takeFigures_26 (by first | assumption | decide | omega) pT44 rfl ?_
        refine p_vI (ν := mX7_figureAt) (pc' := 32) dX7_takeFigures_29 ml_RX7_22 mo_X7_figureAt mv_X7_figureAt clX7 (Nat.le_of_ble_eq_true rfl) rfl rfl (Nat.le_of_ble_eq_true rfl) (by first | assumption | decide | omega) pT44 (by decide) (c_figureAt hS (by omega)) ?_
        refine k_iadd (pc' := 33) dX7_takeFigures_32 rfl ?_
        refine k_istore_n (pc' := 34) dX7_takeFigures_33 (Nat.le_of_ble_eq_true rfl) rfl ?_
        refine k_aload_n (pc' := 35) dX7_takeFigures_34 rfl ?_
        refine k_dup (pc' := 36) dX7_takeFigures_35 rfl ?_
        refine p_get (pc' := 39) clX7 (Nat.le_of_ble_eq_true rfl) fl_RX7_19 dX7_takeFigures_36 (by first | assumption | decide | omega) pT44 rfl ?_
        refine k_iconst (pc' := 40) (v := nI 1) dX7_takeFigures_39 rfl ?_
        refine k_iadd (pc' := 41) (v := nI (p + 1)) dX7_takeFigures_40 (nI_add _ _) ?_
        refine p_putI (pc' := 44) (σ1 := putTp G σ S (p + 1) by') clX7 (Nat.le_of_ble_eq_true rfl) fl_RX7_19 dX7_takeFigures_41 rfl (Or.inl rfl) (by first | assumption | decide | omega) pT44 (Nat.le_of_ble_eq_true rfl) (by exact pT_o) ?_
        refine k_iinc (pc' := 47) (v := nI (k + 1)) dX7_takeFigures_44 rfl (nI_inc _) (Nat.le_of_ble_eq_true rfl) rfl ?_
        refine k_goto (tgt := 4) dX7_takeFigures_47 rfl ?_
        exact ih (k + 1) _ (p + 1) (by omega) (by omega) r hr
  exact main 3 0 (nI 0) sp (by omega) (by omega) _ rfl
theorem tF_le : ∀ n v p, p ≤ S → (tF S by' n v p).2 ≤ S := by
  intro n
  induction n with
  | zero => intro v p h; exact h
  | succ n ih =>
    intro v p h
    unfold tF
    by_cases hc : fA S by' p < 0
    · rw [if_pos hc]; exact h
    · rw [if_neg hc]
      refine ih _ _ ?_
      rcases Nat.lt_or_ge p S with h1 | h1
      · exact h1
      · exfalso
        apply hc
        have e : bA S by' p = -1 := if_neg (by omega)
        unfold fA
        rw [e, if_neg (by decide)]
        decide
theorem bA_lt {i : Nat} {c : Int32} (h : bA S by' i = c) (hc : c ≠ -1) : i < S := by
  unfold bA at h
  by_cases hi : i < S
  · exact hi
  · rw [if_neg hi] at h; exact absurd h.symm hc
/-- what parseInto answers: at a fault, or at the text's end -/
def prA (S : Nat) (a : PS) : Int32 := if a.2.2 = true then nI a.2.1 else if a.2.1 < S then nI a.2.1 else -1
theorem c_parseBad {t : Nat} (hS : S ≤ 80) (hb : fA S by' 0 < nI 2 ∨ nI 6 < fA S by' 0) : ConP G mX7_parseInto 5 [.ref (adr G 44), .ref (adr G t)] (putTp G σ S sp by') (rI (nI 0) (putTp G σ S sp by')) := by
  refine ConP.of rfl (Nat.le_of_ble_eq_true rfl) ?_
  rcases hb with hb | hb
  · refine k_aload_n (pc' := 1) dX7_parseInto_0 rfl ?_
    refine k_iconst (pc' := 2) (v := nI 0) dX7_parseInto_1 rfl ?_
    refine p_vI (ν := mX7_figureAt) (pc' := 5) dX7_parseInto_2 ml_RX7_22 mo_X7_figureAt mv_X7_figureAt clX7 (Nat.le_of_ble_eq_true rfl) rfl rfl (Nat.le_of_ble_eq_true rfl) (by first | assumption | decide | omega) pT44 (by decide) (c_figureAt hS (by decide)) ?_
    refine k_istore_n (pc' := 6) dX7_parseInto_5 (Nat.le_of_ble_eq_true rfl) rfl ?_
    refine k_iload_n (pc' := 7) dX7_parseInto_6 rfl ?_
    refine k_iconst (pc' := 8) (v := nI 2) dX7_parseInto_7 rfl ?_
    refine k_icmp_lt (tgt := 17) (pc' := 11) dX7_parseInto_8 rfl (fun _ => ?_) (fun zz_ => absurd hb zz_)
    refine k_iconst (pc' := 18) (v := nI 0) dX7_parseInto_17 rfl ?_
    refine p_ireturn dX7_parseInto_18 rfl ?_
    exact ⟨rfl, rfl⟩
  · have h2 : ¬ fA S by' 0 < nI 2 := fun z => absurd (Int32.lt_trans hb z) (by decide)
    refine k_aload_n (pc' := 1) dX7_parseInto_0 rfl ?_
    refine k_iconst (pc' := 2) (v := nI 0) dX7_parseInto_1 rfl ?_
    refine p_vI (ν := mX7_figureAt) (pc' := 5) dX7_parseInto_2 ml_RX7_22 mo_X7_figureAt mv_X7_figureAt clX7 (Nat.le_of_ble_eq_true rfl) rfl rfl (Nat.le_of_ble_eq_true rfl) (by first | assumption | decide | omega) pT44 (by decide) (c_figureAt hS (by decide)) ?_
    refine k_istore_n (pc' := 6) dX7_parseInto_5 (Nat.le_of_ble_eq_true rfl) rfl ?_
    refine k_iload_n (pc' := 7) dX7_parseInto_6 rfl ?_
    refine k_iconst (pc' := 8) (v := nI 2) dX7_parseInto_7 rfl ?_
    refine k_icmp_lt (tgt := 17) (pc' := 11) dX7_parseInto_8 rfl (fun zz_ => absurd zz_ h2) (fun _ => ?_)
    refine k_iload_n (pc' := 12) dX7_parseInto_11 rfl ?_
    refine k_bipush (pc' := 14) (v := nI 6) dX7_parseInto_12 rfl ?_
    refine k_icmp_le (tgt := 19) (pc' := 17) dX7_parseInto_14 rfl (fun zz_ => absurd zz_ (Int32.not_le.mpr hb)) (fun _ => ?_)
    refine k_iconst (pc' := 18) (v := nI 0) dX7_parseInto_17 rfl ?_
    refine p_ireturn dX7_parseInto_18 rfl ?_
    exact ⟨rfl, rfl⟩
theorem c_parseInto {t N0 N : Nat} {f0 : Nat → Int32} (hT : isT G σ t N0 f0) (ht : t + 1 < 44) (hS : S ≤ 80) (hN : 2 ≤ N) (hN6 : N ≤ 6) (hf : fA S by' 0 = nI N) : ConP G mX7_parseInto 5 [.ref (adr G 44), .ref (adr G t)] (putTp G σ S sp by') (rI (prA S (prs N S by' f0)) (putTp G (putT G σ t N (prs N S by' f0).1) S (prs N S by' f0).2.1 by')) := by
  have hS1 : 1 ≤ S := by
    rcases Nat.lt_or_ge 0 S with h | h
    · exact h
    · exfalso
      have e : bA S by' 0 = -1 := if_neg (by omega)
      unfold fA at hf
      rw [e, if_neg (by decide)] at hf
      have := congrArg Int32.toInt hf
      rw [nI_e (by omega), im1] at this
      omega
  generalize hR : prs N S by' f0 = R
  refine ConP.of rfl (Nat.le_of_ble_eq_true rfl) ?_
  refine k_aload_n (pc' := 1) dX7_parseInto_0 rfl ?_
  refine k_iconst (pc' := 2) (v := nI 0) dX7_parseInto_1 rfl ?_
  refine p_vI (ν := mX7_figureAt) (pc' := 5) dX7_parseInto_2 ml_RX7_22 mo_X7_figureAt mv_X7_figureAt clX7 (Nat.le_of_ble_eq_true rfl) rfl rfl (Nat.le_of_ble_eq_true rfl) (by first | assumption | decide | omega) pT44 (by decide) (c_figureAt hS (by decide)) ?_
  refine k_istore_n (pc' := 6) dX7_parseInto_5 (Nat.le_of_ble_eq_true rfl) rfl ?_
  refine k_iload_n (pc' := 7) dX7_parseInto_6 rfl ?_
  refine k_iconst (pc' := 8) (v := nI 2) dX7_parseInto_7 rfl ?_
  refine k_icmp_lt (tgt := 17) (pc' := 11) dX7_parseInto_8 rfl (fun zz_ => absurd zz_ (by rw [hf]; exact nI_nlt (by omega) (by omega))) (fun _ => ?_)
  refine k_iload_n (pc' := 12) dX7_parseInto_11 rfl ?_
  refine k_bipush (pc' := 14) (v := nI 6) dX7_parseInto_12 rfl ?_
  refine k_icmp_le (tgt := 19) (pc' := 17) dX7_parseInto_14 rfl (fun _ => ?_) (fun zz_ => absurd (by rw [hf]; exact nI_le (by omega) (by omega)) zz_)
  refine k_aload_n (pc' := 20) dX7_parseInto_19 rfl ?_
  refine k_iload_n (pc' := 21) dX7_parseInto_20 rfl ?_
  rw [hf]
  refine p_vV (ν := mX6_clearTo) (pc' := 24) dX7_parseInto_21 ml_RX7_26 mo_X6_clearTo mv_X6_clearTo clX6 (Nat.le_of_ble_eq_true rfl) rfl rfl (Nat.le_of_ble_eq_true rfl) hT.1 (pT_T hT (by omega)).2.2.1 (by decide) (c_clearTo (pT_T hT (by omega)) hN hN6) ?_
  rw [pT_putT ht]
  refine k_aload_n (pc' := 25) dX7_parseInto_24 rfl ?_
  refine k_iconst (pc' := 26) (v := nI 1) dX7_parseInto_25 rfl ?_
  refine p_putI (pc' := 29) (σ1 := putTp G (putT G σ t N (zf 15 f0)) S 1 by') clX7 (Nat.le_of_ble_eq_true rfl) fl_RX7_19 dX7_parseInto_26 rfl (Or.inl rfl) (by first | assumption | decide | omega) pT44 (Nat.le_of_ble_eq_true rfl) (by exact pT_o) ?_
  refine k_iconst (pc' := 30) (v := nI 1) dX7_parseInto_29 rfl ?_
  refine k_istore_n (pc' := 31) dX7_parseInto_30 (Nat.le_of_ble_eq_true rfl) rfl ?_
  have bad1 : ∀ m i j (a : PS), a.2.2 = true → upn m j (pr1 N S by' i) a = a := by
    intro m
    induction m with
    | zero => intros; rfl
    | succ m ih =>
      intro i j a ha
      have e : pr1 N S by' i j a = a := if_pos ha
      show upn m (j + 1) (pr1 N S by' i) (pr1 N S by' i j a) = a
      rw [e]
      exact ih i (j + 1) a ha
  have bad2 : ∀ n i (a : PS), a.2.2 = true → upn n i (pr2 N S by') a = a := by
    intro n
    induction n with
    | zero => intros; rfl
    | succ n ih =>
      intro i a ha
      have e : pr2 N S by' i a = a := bad1 _ _ _ a ha
      show upn n (i + 1) (pr2 N S by') (pr2 N S by' i a) = a
      rw [e]
      exact ih (i + 1) a ha
  have fin : ∀ (a : PS), a.2.2 = true → a = R → rI (prA S R) (putTp G (putT G σ t N R.1) S R.2.1 by') (some (.int (nI a.2.1))) (putTp G (putT G σ t N a.1) S a.2.1 by') := by
    intro a ha e
    subst e
    exact ⟨by unfold prA; rw [if_pos ha], rfl⟩
  have outer : ∀ n i (a : PS), i + n = N → 1 ≤ i → a.2.2 = false → a.2.1 ≤ S → upn n i (pr2 N S by') a = R → ∀ z, OkP G mX7_parseInto 5 (rI (prA S R) (putTp G (putT G σ t N R.1) S R.2.1 by')) 31 [some (.ref (adr G 44)), some (.ref (adr G t)), some (.int (nI N)), some (.int (nI i)), z] [] (putTp G (putT G σ t N a.1) S a.2.1 by') := by
    intro n
    induction n with
    | zero =>
      intro i a hi _ hb hsp he z
      have he : a = R := he
      subst he
      by_cases hl : a.2.1 < S
      · refine k_iload_n (pc' := 32) dX7_parseInto_31 rfl ?_
        refine k_iload_n (pc' := 33) dX7_parseInto_32 rfl ?_
        refine k_icmp_ge (tgt := 127) (pc' := 36) dX7_parseInto_33 rfl (fun _ => ?_) (fun zz_ => absurd (nI_le (by omega) (by omega)) zz_)
        refine k_aload_n (pc' := 128) dX7_parseInto_127 rfl ?_
        refine p_get (pc' := 131) clX7 (Nat.le_of_ble_eq_true rfl) fl_RX7_19 dX7_parseInto_128 (by first | assumption | decide | omega) pT44 rfl ?_
        refine k_aload_n (pc' := 132) dX7_parseInto_131 rfl ?_
        refine p_get (pc' := 135) clX7 (Nat.le_of_ble_eq_true rfl) fl_RX7_15 dX7_parseInto_132 (by first | assumption | decide | omega) pT44 rfl ?_
        refine k_icmp_ge (tgt := 145) (pc' := 138) dX7_parseInto_135 rfl (fun zz_ => absurd zz_ (nI_ge (by omega) (by omega))) (fun _ => ?_)
        refine k_aload_n (pc' := 139) dX7_parseInto_138 rfl ?_
        refine p_get (pc' := 142) clX7 (Nat.le_of_ble_eq_true rfl) fl_RX7_19 dX7_parseInto_139 (by first | assumption | decide | omega) pT44 rfl ?_
        refine k_goto (tgt := 146) dX7_parseInto_142 rfl ?_
        refine p_ireturn dX7_parseInto_146 rfl ?_
        exact ⟨by unfold prA; rw [if_neg (by rw [hb]; decide), if_pos hl], rfl⟩
      · refine k_iload_n (pc' := 32) dX7_parseInto_31 rfl ?_
        refine k_iload_n (pc' := 33) dX7_parseInto_32 rfl ?_
        refine k_icmp_ge (tgt := 127) (pc' := 36) dX7_parseInto_33 rfl (fun _ => ?_) (fun zz_ => absurd (nI_le (by omega) (by omega)) zz_)
        refine k_aload_n (pc' := 128) dX7_parseInto_127 rfl ?_
        refine p_get (pc' := 131) clX7 (Nat.le_of_ble_eq_true rfl) fl_RX7_19 dX7_parseInto_128 (by first | assumption | decide | omega) pT44 rfl ?_
        refine k_aload_n (pc' := 132) dX7_parseInto_131 rfl ?_
        refine p_get (pc' := 135) clX7 (Nat.le_of_ble_eq_true rfl) fl_RX7_15 dX7_parseInto_132 (by first | assumption | decide | omega) pT44 rfl ?_
        refine k_icmp_ge (tgt := 145) (pc' := 138) dX7_parseInto_135 rfl (fun _ => ?_) (fun zz_ => absurd (nI_le (by omega) (by omega)) zz_)
        refine k_iconst (pc' := 146) (v := -1) dX7_parseInto_145 rfl ?_
        refine p_ireturn dX7_parseInto_146 rfl ?_
        exact ⟨by unfold prA; rw [if_neg (by rw [hb]; decide), if_neg hl], rfl⟩
    | succ n ih =>
      intro i a hi hi1 hb hsp he z
      refine k_iload_n (pc' := 32) dX7_parseInto_31 rfl ?_
      refine k_iload_n (pc' := 33) dX7_parseInto_32 rfl ?_
      refine k_icmp_ge (tgt := 127) (pc' := 36) dX7_parseInto_33 rfl (fun zz_ => absurd zz_ (nI_ge (by omega) (by omega))) (fun _ => ?_)
      refine k_iconst (pc' := 37) (v := nI 0) dX7_parseInto_36 rfl ?_
      refine k_istore (pc' := 39) dX7_parseInto_37 (Nat.le_of_ble_eq_true rfl) rfl ?_
      have inner : ∀ m j (a : PS), j + m = i → a.2.2 = false → a.2.1 ≤ S → upn n (i + 1) (pr2 N S by') (upn m j (pr1 N S by' i) a) = R → OkP G mX7_parseInto 5 (rI (prA S R) (putTp G (putT G σ t N R.1) S R.2.1 by')) 39 [some (.ref (adr G 44)), some (.ref (adr G t)), some (.int (nI N)), some (.int (nI i)), some (.int (nI j))] [] (putTp G (putT G σ t N a.1) S a.2.1 by') := by
        intro m
        induction m with
        | zero =>
          intro j a hj hb hsp he
          refine k_iload (pc' := 41) dX7_parseInto_39 rfl ?_
          refine k_iload_n (pc' := 42) dX7_parseInto_41 rfl ?_
          refine k_icmp_ge (tgt := 121) (pc' := 45) dX7_parseInto_42 rfl (fun _ => ?_) (fun zz_ => absurd (nI_le (by omega) (by omega)) zz_)
          refine k_iinc (pc' := 124) (v := nI (i + 1)) dX7_parseInto_121 rfl (nI_inc _) (Nat.le_of_ble_eq_true rfl) rfl ?_
          refine k_goto (tgt := 31) dX7_parseInto_124 rfl ?_
          exact ih (i + 1) a (by omega) (by omega) hb hsp he _
        | succ m ihm =>
          intro j a hj hb hsp he
          have he : upn n (i + 1) (pr2 N S by') (upn m (j + 1) (pr1 N S by' i) (pr1 N S by' i j a)) = R := he
          have hTa : isT G (putT G σ t N a.1) t N a.1 := putT_T hT hN hN6
          refine k_iload (pc' := 41) dX7_parseInto_39 rfl ?_
          refine k_iload_n (pc' := 42) dX7_parseInto_41 rfl ?_
          refine k_icmp_ge (tgt := 121) (pc' := 45) dX7_parseInto_42 rfl (fun zz_ => absurd zz_ (nI_ge (by omega) (by omega))) (fun _ => ?_)
          refine k_aload_n (pc' := 46) dX7_parseInto_45 rfl ?_
          refine k_aload_n (pc' := 47) dX7_parseInto_46 rfl ?_
          refine p_get (pc' := 50) clX7 (Nat.le_of_ble_eq_true rfl) fl_RX7_19 dX7_parseInto_47 (by first | assumption | decide | omega) pT44 rfl ?_
          refine p_vI (ν := mX7_byteAt) (pc' := 53) dX7_parseInto_50 ml_RX7_32 mo_X7_byteAt mv_X7_byteAt clX7 (Nat.le_of_ble_eq_true rfl) rfl rfl (Nat.le_of_ble_eq_true rfl) (by first | assumption | decide | omega) pT44 (by decide) (c_byteAt hS (by omega)) ?_
          have sign : ∀ c : Int32, c = (if j = 0 then nI 59 else nI 44) → c ≠ -1 → OkP G mX7_parseInto 5 (rI (prA S R) (putTp G (putT G σ t N R.1) S R.2.1 by')) 65 [some (.ref (adr G 44)), some (.ref (adr G t)), some (.int (nI N)), some (.int (nI i)), some (.int (nI j))] [.int c, .int (bA S by' a.2.1)] (putTp G (putT G σ t N a.1) S a.2.1 by') := by
            intro c hc hc1
            by_cases hs : bA S by' a.2.1 = c
            · have hlt := bA_lt hs hc1
              by_cases hfg : fA S by' (a.2.1 + 1) < 0
              · have e : pr1 N S by' i j a = (a.1, a.2.1 + 1, true) := by
                  unfold pr1
                  rw [if_neg (by rw [hb]; decide), if_pos (by rw [hs, hc]), if_pos hfg]
                rw [e, bad1 _ _ _ _ rfl, bad2 _ _ _ rfl] at he
                refine k_icmp_eq (tgt := 73) (pc' := 68) dX7_parseInto_65 rfl (fun _ => ?_) (fun zz_ => absurd hs zz_)
                refine k_aload_n (pc' := 74) dX7_parseInto_73 rfl ?_
                refine k_dup (pc' := 75) dX7_parseInto_74 rfl ?_
                refine p_get (pc' := 78) clX7 (Nat.le_of_ble_eq_true rfl) fl_RX7_19 dX7_parseInto_75 (by first | assumption | decide | omega) pT44 rfl ?_
                refine k_iconst (pc' := 79) (v := nI 1) dX7_parseInto_78 rfl ?_
                refine k_iadd (pc' := 80) (v := nI (a.2.1 + 1)) dX7_parseInto_79 (nI_add _ _) ?_
                refine p_putI (pc' := 83) (σ1 := putTp G (putT G σ t N a.1) S (a.2.1 + 1) by') clX7 (Nat.le_of_ble_eq_true rfl) fl_RX7_19 dX7_parseInto_80 rfl (Or.inl rfl) (by first | assumption | decide | omega) pT44 (Nat.le_of_ble_eq_true rfl) (by exact pT_o) ?_
                refine k_aload_n (pc' := 84) dX7_parseInto_83 rfl ?_
                refine k_aload_n (pc' := 85) dX7_parseInto_84 rfl ?_
                refine p_get (pc' := 88) clX7 (Nat.le_of_ble_eq_true rfl) fl_RX7_19 dX7_parseInto_85 (by first | assumption | decide | omega) pT44 rfl ?_
                refine p_vI (ν := mX7_figureAt) (pc' := 91) dX7_parseInto_88 ml_RX7_22 mo_X7_figureAt mv_X7_figureAt clX7 (Nat.le_of_ble_eq_true rfl) rfl rfl (Nat.le_of_ble_eq_true rfl) (by first | assumption | decide | omega) pT44 (by decide) (c_figureAt hS (by omega)) ?_
                refine k_if_ge (tgt := 99) (pc' := 94) dX7_parseInto_91 rfl (fun zz_ => absurd zz_ (Int32.not_le.mpr hfg)) (fun _ => ?_)
                refine k_aload_n (pc' := 95) dX7_parseInto_94 rfl ?_
                refine p_get (pc' := 98) clX7 (Nat.le_of_ble_eq_true rfl) fl_RX7_19 dX7_parseInto_95 (by first | assumption | decide | omega) pT44 rfl ?_
                refine p_ireturn dX7_parseInto_98 rfl ?_
                exact fin (a.1, a.2.1 + 1, true) rfl he
              · have e : pr1 N S by' i j a = (upd a.1 (pI N j i) (tF S by' 3 (nI 0) (a.2.1 + 1)).1, (tF S by' 3 (nI 0) (a.2.1 + 1)).2, false) := by
                  unfold pr1
                  rw [if_neg (by rw [hb]; decide), if_pos (by rw [hs, hc]), if_neg hfg]
                rw [e] at he
                refine k_icmp_eq (tgt := 73) (pc' := 68) dX7_parseInto_65 rfl (fun _ => ?_) (fun zz_ => absurd hs zz_)
                refine k_aload_n (pc' := 74) dX7_parseInto_73 rfl ?_
                refine k_dup (pc' := 75) dX7_parseInto_74 rfl ?_
                refine p_get (pc' := 78) clX7 (Nat.le_of_ble_eq_true rfl) fl_RX7_19 dX7_parseInto_75 (by first | assumption | decide | omega) pT44 rfl ?_
                refine k_iconst (pc' := 79) (v := nI 1) dX7_parseInto_78 rfl ?_
                refine k_iadd (pc' := 80) (v := nI (a.2.1 + 1)) dX7_parseInto_79 (nI_add _ _) ?_
                refine p_putI (pc' := 83) (σ1 := putTp G (putT G σ t N a.1) S (a.2.1 + 1) by') clX7 (Nat.le_of_ble_eq_true rfl) fl_RX7_19 dX7_parseInto_80 rfl (Or.inl rfl) (by first | assumption | decide | omega) pT44 (Nat.le_of_ble_eq_true rfl) (by exact pT_o) ?_
                refine k_aload_n (pc' := 84) dX7_parseInto_83 rfl ?_
                refine k_aload_n (pc' := 85) dX7_parseInto_84 rfl ?_
                refine p_get (pc' := 88) clX7 (Nat.le_of_ble_eq_true rfl) fl_RX7_19 dX7_parseInto_85 (by first | assumption | decide | omega) pT44 rfl ?_
                refine p_vI (ν := mX7_figureAt) (pc' := 91) dX7_parseInto_88 ml_RX7_22 mo_X7_figureAt mv_X7_figureAt clX7 (Nat.le_of_ble_eq_true rfl) rfl rfl (Nat.le_of_ble_eq_true rfl) (by first | assumption | decide | omega) pT44 (by decide) (c_figureAt hS (by omega)) ?_
                refine k_if_ge (tgt := 99) (pc' := 94) dX7_parseInto_91 rfl (fun _ => ?_) (fun zz_ => absurd (Int32.not_lt.mp hfg) zz_)
                refine k_aload_n (pc' := 100) dX7_parseInto_99 rfl ?_
                refine p_get (pc' := 103) clX6 (Nat.le_of_ble_eq_true rfl) fl_RX7_35 dX7_parseInto_100 hT.1 (pT_T hTa (by omega)).2.2.1 rfl ?_
                refine k_aload_n (pc' := 104) dX7_parseInto_103 rfl ?_
                refine k_iload (pc' := 106) dX7_parseInto_104 rfl ?_
                refine k_iload_n (pc' := 107) dX7_parseInto_106 rfl ?_
                refine p_vI (ν := mX6_pairOf) (pc' := 110) dX7_parseInto_107 ml_RX7_38 mo_X6_pairOf mv_X6_pairOf clX6 (Nat.le_of_ble_eq_true rfl) rfl rfl (Nat.le_of_ble_eq_true rfl) hT.1 (pT_T hTa (by omega)).2.2.1 (by decide) (c_pairOf (pT_T hTa (by omega)) (by omega) (by omega) (by omega)) ?_
                refine k_aload_n (pc' := 111) dX7_parseInto_110 rfl ?_
                refine p_vI (ν := mX7_takeFigures) (pc' := 114) dX7_parseInto_111 ml_RX7_42 mo_X7_takeFigures mv_X7_takeFigures clX7 (Nat.le_of_ble_eq_true rfl) rfl rfl (Nat.le_of_ble_eq_true rfl) (by first | assumption | decide | omega) pT44 (by decide) (c_takeFigures hS (by omega)) ?_
                refine p_iastN (pc' := 115) (σ1 := putTp G (putT G σ t N (upd a.1 (pI N j i) (tF S by' 3 (nI 0) (a.2.1 + 1)).1)) S (tF S by' 3 (nI 0) (a.2.1 + 1)).2 by') dX7_parseInto_114 hT.2.1 (pT_T hTa (by omega)).2.2.2.1 (by first | decide | omega) (pI_lt hN6 (by omega) (by omega) (by omega)) (by exact (by rw [← pT_putT ht, ← pT_putT ht]; exact up_up)) ?_
                refine k_iinc (pc' := 118) (v := nI (j + 1)) dX7_parseInto_115 rfl (nI_inc _) (Nat.le_of_ble_eq_true rfl) rfl ?_
                refine k_goto (tgt := 39) dX7_parseInto_118 rfl ?_
                exact ihm (j + 1) (upd a.1 (pI N j i) (tF S by' 3 (nI 0) (a.2.1 + 1)).1, (tF S by' 3 (nI 0) (a.2.1 + 1)).2, false) (by omega) rfl (tF_le _ _ _ (by omega)) he
            · have e : pr1 N S by' i j a = (a.1, a.2.1, true) := by
                unfold pr1
                rw [if_neg (by rw [hb]; decide), if_neg (by rw [← hc]; exact hs)]
              rw [e, bad1 _ _ _ _ rfl, bad2 _ _ _ rfl] at he
              refine k_icmp_eq (tgt := 73) (pc' := 68) dX7_parseInto_65 rfl (fun zz_ => absurd zz_ hs) (fun _ => ?_)
              refine k_aload_n (pc' := 69) dX7_parseInto_68 rfl ?_
              refine p_get (pc' := 72) clX7 (Nat.le_of_ble_eq_true rfl) fl_RX7_19 dX7_parseInto_69 (by first | assumption | decide | omega) pT44 rfl ?_
              refine p_ireturn dX7_parseInto_72 rfl ?_
              exact fin (a.1, a.2.1, true) rfl he
          by_cases hj0 : j = 0
          · refine k_iload (pc' := 55) dX7_parseInto_53 rfl ?_
            refine k_if_ne (tgt := 63) (pc' := 58) dX7_parseInto_55 rfl (fun zz_ => absurd (by rw [hj0]; rfl) zz_) (fun _ => ?_)
            refine k_bipush (pc' := 60) (v := nI 59) dX7_parseInto_58 rfl ?_
            refine k_goto (tgt := 65) dX7_parseInto_60 rfl ?_
            exact sign (nI 59) (by rw [if_pos hj0]) (by decide)
          · refine k_iload (pc' := 55) dX7_parseInto_53 rfl ?_
            refine k_if_ne (tgt := 63) (pc' := 58) dX7_parseInto_55 rfl (fun _ => ?_) (fun zz_ => absurd zz_ (nI_ne0 (by omega) (by omega)))
            refine k_bipush (pc' := 65) (v := nI 44) dX7_parseInto_63 rfl ?_
            exact sign (nI 44) (by rw [if_neg hj0]) (by decide)
      exact inner i 0 a (by omega) hb hsp he
  exact outer (N - 1) 1 (zf 15 f0, 1, false) (by omega) (Nat.le_refl 1) rfl hS1 hR none
end TAPE
/-! Speller: the object at 46, its bytes at 47 -/
abbrev SP : Type := (Nat → Int32) × Nat
def putSp (G : GT) (σ : Sto) (w : SP) : Sto := va_up (va_up σ 46 (ob 4 [.ref (adr G 47), .int (nI w.2)])) 47 (aI G 61 w.1)
def apd (b : Int32) (w : SP) : SP := if w.2 < 61 then (upd w.1 w.2 b, w.2 + 1) else w
def wFg (v : Int32) (w : SP) : SP :=
  let w1 := if v < nI 100 then w else apd (nI 48 + v / nI 100) w
  let w2 := if v < nI 10 then w1 else apd (nI 48 + (v / nI 10 - v / nI 10 / nI 10 * nI 10)) w1
  apd (nI 48 + (v - v / nI 10 * nI 10)) w2
def wr1 (N : Nat) (far : Nat → Int32) (i j : Nat) (w : SP) : SP := wFg (dT N far j i) (apd (if j = 0 then nI 59 else nI 44) w)
def wr2 (N : Nat) (far : Nat → Int32) (i : Nat) (w : SP) : SP := upn i 0 (wr1 N far i) w
def wri (N : Nat) (far : Nat → Int32) (sb : Nat → Int32) : SP := upn (N - 1) 1 (wr2 N far) (apd (nI (48 + N)) (sb, 0))
section SPELL
variable {G : GT} {σ : Sto} {w : SP}
theorem pP46 : putSp G σ w 46 = ob 4 [.ref (adr G 47), .int (nI w.2)] := rfl
theorem pP47 : putSp G σ w 47 = aI G 61 w.1 := rfl
theorem pPn {q : Nat} (h : q ≠ 46) (h2 : q ≠ 47) : putSp G σ w q = σ q := by unfold putSp; rw [up_n h2, up_n h]
theorem pP_T {t M : Nat} {f : Nat → Int32} (h : isT G σ t M f) (ht : t + 1 < 46 ∨ 47 < t) : isT G (putSp G σ w) t M f := ⟨h.1, h.2.1, (pPn (by omega) (by omega)).trans h.2.2.1, (pPn (by omega) (by omega)).trans h.2.2.2.1, h.2.2.2.2⟩
theorem pP_o {S2 : Nat} : va_up (putSp G σ w) 46 (ob 4 [.ref (adr G 47), .int (nI S2)]) = putSp G σ (w.1, S2) := by
  unfold putSp
  rw [up_c (k := 47) (j := 46) (by decide), up_up]
theorem pP_b {b : Nat → Int32} : va_up (putSp G σ w) 47 (aI G 61 b) = putSp G σ (b, w.2) := up_up
theorem apd_le {b : Int32} (h : w.2 ≤ 61) : (apd b w).2 ≤ 61 := by
  unfold apd
  split
  · show w.2 + 1 ≤ 61; omega
  · exact h
theorem c_spAppend (hw : w.2 ≤ 61) {b : Int32} : ConP G mX4_append 1 [.ref (adr G 46), .int b] (putSp G σ w) (rV (putSp G σ (apd b w))) := by
  refine ConP.of rfl (Nat.le_of_ble_eq_true rfl) ?_
  by_cases h : w.2 < 61
  · rw [show apd b w = (upd w.1 w.2 b, w.2 + 1) from if_pos h]
    refine k_aload_n (pc' := 1) dX4_append_0 rfl ?_
    refine p_get (pc' := 4) clX4 (Nat.le_of_ble_eq_true rfl) fl_RX4_15 dX4_append_1 (by first | assumption | decide | omega) pP46 rfl ?_
    refine k_bipush (pc' := 6) (v := nI 61) dX4_append_4 rfl ?_
    refine k_icmp_ge (tgt := 29) (pc' := 9) dX4_append_6 rfl (fun zz_ => absurd zz_ (nI_ge (by omega) (by omega))) (fun _ => ?_)
    refine k_aload_n (pc' := 10) dX4_append_9 rfl ?_
    refine p_get (pc' := 13) clX4 (Nat.le_of_ble_eq_true rfl) fl_RX4_9 dX4_append_10 (by first | assumption | decide | omega) pP46 rfl ?_
    refine k_aload_n (pc' := 14) dX4_append_13 rfl ?_
    refine p_get (pc' := 17) clX4 (Nat.le_of_ble_eq_true rfl) fl_RX4_15 dX4_append_14 (by first | assumption | decide | omega) pP46 rfl ?_
    refine k_iload_n (pc' := 18) dX4_append_17 rfl ?_
    refine p_iastN (pc' := 19) (σ1 := putSp G σ (upd w.1 w.2 b, w.2)) dX4_append_18 (by first | assumption | decide | omega) pP47 (by first | decide | omega) (by omega) (by exact pP_b) ?_
    refine k_aload_n (pc' := 20) dX4_append_19 rfl ?_
    refine k_dup (pc' := 21) dX4_append_20 rfl ?_
    refine p_get (pc' := 24) clX4 (Nat.le_of_ble_eq_true rfl) fl_RX4_15 dX4_append_21 (by first | assumption | decide | omega) pP46 rfl ?_
    refine k_iconst (pc' := 25) (v := nI 1) dX4_append_24 rfl ?_
    refine k_iadd (pc' := 26) (v := nI (w.2 + 1)) dX4_append_25 (nI_add _ _) ?_
    refine p_putI (pc' := 29) (σ1 := putSp G σ (upd w.1 w.2 b, w.2 + 1)) clX4 (Nat.le_of_ble_eq_true rfl) fl_RX4_15 dX4_append_26 rfl (Or.inl rfl) (by first | assumption | decide | omega) pP46 (Nat.le_of_ble_eq_true rfl) (by exact pP_o) ?_
    refine p_return dX4_append_29 rfl ?_
    exact ⟨rfl, rfl⟩
  · rw [show apd b w = w from if_neg h]
    refine k_aload_n (pc' := 1) dX4_append_0 rfl ?_
    refine p_get (pc' := 4) clX4 (Nat.le_of_ble_eq_true rfl) fl_RX4_15 dX4_append_1 (by first | assumption | decide | omega) pP46 rfl ?_
    refine k_bipush (pc' := 6) (v := nI 61) dX4_append_4 rfl ?_
    refine k_icmp_ge (tgt := 29) (pc' := 9) dX4_append_6 rfl (fun _ => ?_) (fun zz_ => absurd (nI_le (by omega) (by omega)) zz_)
    refine p_return dX4_append_29 rfl ?_
    exact ⟨rfl, rfl⟩
theorem c_writeFigures (hw : w.2 ≤ 61) {v : Int32} : ConP G mX4_writeFigures 2 [.ref (adr G 46), .int v] (putSp G σ w) (rV (putSp G σ (wFg v w))) := by
  have p3 : ∀ w2 : SP, w2.2 ≤ 61 → apd (nI 48 + (v - v / nI 10 * nI 10)) w2 = wFg v w → OkP G mX4_writeFigures 2 (rV (putSp G σ (wFg v w))) 37 [some (.ref (adr G 46)), some (.int v)] [] (putSp G σ w2) := by
    intro w2 h2 e
    refine k_aload_n (pc' := 38) dX4_writeFigures_37 rfl ?_
    refine k_bipush (pc' := 40) (v := nI 48) dX4_writeFigures_38 rfl ?_
    refine k_iload_n (pc' := 41) dX4_writeFigures_40 rfl ?_
    refine k_bipush (pc' := 43) (v := nI 10) dX4_writeFigures_41 rfl ?_
    refine k_irem (pc' := 44) dX4_writeFigures_43 (by decide) rfl ?_
    refine k_iadd (pc' := 45) dX4_writeFigures_44 rfl ?_
    refine p_vV (ν := mX4_append) (pc' := 48) dX4_writeFigures_45 ml_RX4_24 mo_X4_append mv_X4_append clX4 (Nat.le_of_ble_eq_true rfl) rfl rfl (Nat.le_of_ble_eq_true rfl) (by first | assumption | decide | omega) pP46 (by decide) (c_spAppend h2) ?_
    refine p_return dX4_writeFigures_48 rfl ?_
    exact ⟨rfl, by rw [e]⟩
  have p2 : ∀ w1 : SP, w1.2 ≤ 61 → apd (nI 48 + (v - v / nI 10 * nI 10)) (if v < nI 10 then w1 else apd (nI 48 + (v / nI 10 - v / nI 10 / nI 10 * nI 10)) w1) = wFg v w → OkP G mX4_writeFigures 2 (rV (putSp G σ (wFg v w))) 17 [some (.ref (adr G 46)), some (.int v)] [] (putSp G σ w1) := by
    intro w1 h1 e
    by_cases h : v < nI 10
    · rw [if_pos h] at e
      refine k_iload_n (pc' := 18) dX4_writeFigures_17 rfl ?_
      refine k_bipush (pc' := 20) (v := nI 10) dX4_writeFigures_18 rfl ?_
      refine k_icmp_lt (tgt := 37) (pc' := 23) dX4_writeFigures_20 rfl (fun _ => ?_) (fun zz_ => absurd h zz_)
      exact p3 w1 h1 e
    · rw [if_neg h] at e
      refine k_iload_n (pc' := 18) dX4_writeFigures_17 rfl ?_
      refine k_bipush (pc' := 20) (v := nI 10) dX4_writeFigures_18 rfl ?_
      refine k_icmp_lt (tgt := 37) (pc' := 23) dX4_writeFigures_20 rfl (fun zz_ => absurd zz_ h) (fun _ => ?_)
      refine k_aload_n (pc' := 24) dX4_writeFigures_23 rfl ?_
      refine k_bipush (pc' := 26) (v := nI 48) dX4_writeFigures_24 rfl ?_
      refine k_iload_n (pc' := 27) dX4_writeFigures_26 rfl ?_
      refine k_bipush (pc' := 29) (v := nI 10) dX4_writeFigures_27 rfl ?_
      refine k_idiv (pc' := 30) dX4_writeFigures_29 (by decide) rfl ?_
      refine k_bipush (pc' := 32) (v := nI 10) dX4_writeFigures_30 rfl ?_
      refine k_irem (pc' := 33) dX4_writeFigures_32 (by decide) rfl ?_
      refine k_iadd (pc' := 34) dX4_writeFigures_33 rfl ?_
      refine p_vV (ν := mX4_append) (pc' := 37) dX4_writeFigures_34 ml_RX4_24 mo_X4_append mv_X4_append clX4 (Nat.le_of_ble_eq_true rfl) rfl rfl (Nat.le_of_ble_eq_true rfl) (by first | assumption | decide | omega) pP46 (by decide) (c_spAppend h1) ?_
      exact p3 _ (apd_le h1) e
  refine ConP.of rfl (Nat.le_of_ble_eq_true rfl) ?_
  by_cases h : v < nI 100
  · refine k_iload_n (pc' := 1) dX4_writeFigures_0 rfl ?_
    refine k_bipush (pc' := 3) (v := nI 100) dX4_writeFigures_1 rfl ?_
    refine k_icmp_lt (tgt := 17) (pc' := 6) dX4_writeFigures_3 rfl (fun _ => ?_) (fun zz_ => absurd h zz_)
    exact p2 w hw (by unfold wFg; dsimp only; rw [if_pos h])
  · refine k_iload_n (pc' := 1) dX4_writeFigures_0 rfl ?_
    refine k_bipush (pc' := 3) (v := nI 100) dX4_writeFigures_1 rfl ?_
    refine k_icmp_lt (tgt := 17) (pc' := 6) dX4_writeFigures_3 rfl (fun zz_ => absurd zz_ h) (fun _ => ?_)
    refine k_aload_n (pc' := 7) dX4_writeFigures_6 rfl ?_
    refine k_bipush (pc' := 9) (v := nI 48) dX4_writeFigures_7 rfl ?_
    refine k_iload_n (pc' := 10) dX4_writeFigures_9 rfl ?_
    refine k_bipush (pc' := 12) (v := nI 100) dX4_writeFigures_10 rfl ?_
    refine k_idiv (pc' := 13) dX4_writeFigures_12 (by decide) rfl ?_
    refine k_iadd (pc' := 14) dX4_writeFigures_13 rfl ?_
    refine p_vV (ν := mX4_append) (pc' := 17) dX4_writeFigures_14 ml_RX4_24 mo_X4_append mv_X4_append clX4 (Nat.le_of_ble_eq_true rfl) rfl rfl (Nat.le_of_ble_eq_true rfl) (by first | assumption | decide | omega) pP46 (by decide) (c_spAppend hw) ?_
    exact p2 _ (apd_le hw) (by unfold wFg; dsimp only; rw [if_neg h])
theorem wFg_le {v : Int32} (h : w.2 ≤ 61) : (wFg v w).2 ≤ 61 := by
  unfold wFg
  dsimp only
  refine apd_le ?_
  split
  · split
    · exact h
    · exact apd_le h
  · refine apd_le ?_
    split
    · exact h
    · exact apd_le h
theorem c_write {t N : Nat} {far : Nat → Int32} (hT : isT G σ t N far) (ht : t + 1 < 46) : ConP G mX4_write 3 [.ref (adr G 46), .ref (adr G t)] (putSp G σ w) (rV (putSp G σ (wri N far w.1))) := by
  have hN := hT.2.2.2.2.1
  have hN6 := hT.2.2.2.2.2
  refine ConP.of rfl (Nat.le_of_ble_eq_true rfl) ?_
  refine k_aload_n (pc' := 1) dX4_write_0 rfl ?_
  refine k_iconst (pc' := 2) (v := nI 0) dX4_write_1 rfl ?_
  refine p_putI (pc' := 5) (σ1 := putSp G σ (w.1, 0)) clX4 (Nat.le_of_ble_eq_true rfl) fl_RX4_15 dX4_write_2 rfl (Or.inl rfl) (by first | assumption | decide | omega) pP46 (Nat.le_of_ble_eq_true rfl) (by exact pP_o) ?_
  refine k_aload_n (pc' := 6) dX4_write_5 rfl ?_
  refine k_bipush (pc' := 8) (v := nI 48) dX4_write_6 rfl ?_
  refine k_aload_n (pc' := 9) dX4_write_8 rfl ?_
  refine p_get (pc' := 12) clX6 (Nat.le_of_ble_eq_true rfl) fl_RX4_19 dX4_write_9 hT.1 (pP_T hT (by omega)).2.2.1 rfl ?_
  refine k_iadd (pc' := 13) (v := nI (48 + N)) dX4_write_12 (nI_add _ _) ?_
  refine p_vV (ν := mX4_append) (pc' := 16) dX4_write_13 ml_RX4_24 mo_X4_append mv_X4_append clX4 (Nat.le_of_ble_eq_true rfl) rfl rfl (Nat.le_of_ble_eq_true rfl) (by first | assumption | decide | omega) pP46 (by decide) (c_spAppend (w := (w.1, 0)) (Nat.zero_le _)) ?_
  refine k_iconst (pc' := 17) (v := nI 1) dX4_write_16 rfl ?_
  refine k_istore_n (pc' := 18) dX4_write_17 (Nat.le_of_ble_eq_true rfl) rfl ?_
  refine loopU (fun i (a : SP) => a.2 ≤ 61 → ∀ z, OkP G mX4_write 3 (rV (putSp G σ (wri N far w.1))) 18 [some (.ref (adr G 46)), some (.ref (adr G t)), some (.int (nI i)), z] [] (putSp G σ a)) (wr2 N far) N 1 (N - 1) (apd (nI (48 + N)) (w.1, 0)) (by omega) ?_ ?_ (apd_le (Nat.zero_le _)) none
  · intro i a hi1 hi ih ha z
    refine k_iload_n (pc' := 19) dX4_write_18 rfl ?_
    refine k_aload_n (pc' := 20) dX4_write_19 rfl ?_
    refine p_get (pc' := 23) clX6 (Nat.le_of_ble_eq_true rfl) fl_RX4_19 dX4_write_20 hT.1 (pP_T hT (by omega)).2.2.1 rfl ?_
    refine k_icmp_ge (tgt := 70) (pc' := 26) dX4_write_23 rfl (fun zz_ => absurd zz_ (nI_ge (by omega) (by omega))) (fun _ => ?_)
    refine k_iconst (pc' := 27) (v := nI 0) dX4_write_26 rfl ?_
    refine k_istore_n (pc' := 28) dX4_write_27 (Nat.le_of_ble_eq_true rfl) rfl ?_
    have le2 : ∀ m j (a : SP), a.2 ≤ 61 → (upn m j (wr1 N far i) a).2 ≤ 61 := by
      intro m j a h
      exact upn_inv (fun _ (a : SP) => a.2 ≤ 61) m j a (fun _ _ _ _ h => wFg_le (apd_le h)) h
    refine loopU (fun j (a : SP) => a.2 ≤ 61 → OkP G mX4_write 3 (rV (putSp G σ (wri N far w.1))) 28 [some (.ref (adr G 46)), some (.ref (adr G t)), some (.int (nI i)), some (.int (nI j))] [] (putSp G σ a)) (wr1 N far i) i 0 i a (by omega) ?_ ?_ ha
    · intro j a _ hj ih2 ha
      have rest : ∀ c : Int32, c = (if j = 0 then nI 59 else nI 44) → OkP G mX4_write 3 (rV (putSp G σ (wri N far w.1))) 45 [some (.ref (adr G 46)), some (.ref (adr G t)), some (.int (nI i)), some (.int (nI j))] [.int c, .ref (adr G 46)] (putSp G σ a) := by
        intro c hc
        refine p_vV (ν := mX4_append) (pc' := 48) dX4_write_45 ml_RX4_24 mo_X4_append mv_X4_append clX4 (Nat.le_of_ble_eq_true rfl) rfl rfl (Nat.le_of_ble_eq_true rfl) (by first | assumption | decide | omega) pP46 (by decide) (c_spAppend ha) ?_
        refine k_aload_n (pc' := 49) dX4_write_48 rfl ?_
        refine k_aload_n (pc' := 50) dX4_write_49 rfl ?_
        refine k_iload_n (pc' := 51) dX4_write_50 rfl ?_
        refine k_iload_n (pc' := 52) dX4_write_51 rfl ?_
        refine p_vI (ν := mX6_between) (pc' := 55) dX4_write_52 ml_RX4_28 mo_X6_between mv_X6_between clX6 (Nat.le_of_ble_eq_true rfl) rfl rfl (Nat.le_of_ble_eq_true rfl) hT.1 (pP_T hT (by omega)).2.2.1 (by decide) (c_between (pP_T hT (by omega)) (by omega) (by omega)) ?_
        refine p_vV (ν := mX4_writeFigures) (pc' := 58) dX4_write_55 ml_RX4_32 mo_X4_writeFigures mv_X4_writeFigures clX4 (Nat.le_of_ble_eq_true rfl) rfl rfl (Nat.le_of_ble_eq_true rfl) (by first | assumption | decide | omega) pP46 (by decide) (c_writeFigures (apd_le ha)) ?_
        refine k_iinc (pc' := 61) (v := nI (j + 1)) dX4_write_58 rfl (nI_inc _) (Nat.le_of_ble_eq_true rfl) rfl ?_
        refine k_goto (tgt := 28) dX4_write_61 rfl ?_
        rw [hc]
        exact ih2 (wFg_le (apd_le ha))
      by_cases hj0 : j = 0
      · refine k_iload_n (pc' := 29) dX4_write_28 rfl ?_
        refine k_iload_n (pc' := 30) dX4_write_29 rfl ?_
        refine k_icmp_ge (tgt := 64) (pc' := 33) dX4_write_30 rfl (fun zz_ => absurd zz_ (nI_ge (by omega) (by omega))) (fun _ => ?_)
        refine k_aload_n (pc' := 34) dX4_write_33 rfl ?_
        refine k_iload_n (pc' := 35) dX4_write_34 rfl ?_
        refine k_if_ne (tgt := 43) (pc' := 38) dX4_write_35 rfl (fun zz_ => absurd (by rw [hj0]; rfl) zz_) (fun _ => ?_)
        refine k_bipush (pc' := 40) (v := nI 59) dX4_write_38 rfl ?_
        refine k_goto (tgt := 45) dX4_write_40 rfl ?_
        exact rest (nI 59) (by rw [if_pos hj0])
      · refine k_iload_n (pc' := 29) dX4_write_28 rfl ?_
        refine k_iload_n (pc' := 30) dX4_write_29 rfl ?_
        refine k_icmp_ge (tgt := 64) (pc' := 33) dX4_write_30 rfl (fun zz_ => absurd zz_ (nI_ge (by omega) (by omega))) (fun _ => ?_)
        refine k_aload_n (pc' := 34) dX4_write_33 rfl ?_
        refine k_iload_n (pc' := 35) dX4_write_34 rfl ?_
        refine k_if_ne (tgt := 43) (pc' := 38) dX4_write_35 rfl (fun _ => ?_) (fun zz_ => absurd zz_ (nI_ne0 (by omega) (by omega)))
        refine k_bipush (pc' := 45) (v := nI 44) dX4_write_43 rfl ?_
        exact rest (nI 44) (by rw [if_neg hj0])
    · intro ha
      refine k_iload_n (pc' := 29) dX4_write_28 rfl ?_
      refine k_iload_n (pc' := 30) dX4_write_29 rfl ?_
      refine k_icmp_ge (tgt := 64) (pc' := 33) dX4_write_30 rfl (fun _ => ?_) (fun zz_ => absurd (nI_le (by omega) (by omega)) zz_)
      refine k_iinc (pc' := 67) (v := nI (i + 1)) dX4_write_64 rfl (nI_inc _) (Nat.le_of_ble_eq_true rfl) rfl ?_
      refine k_goto (tgt := 18) dX4_write_67 rfl ?_
      exact ih (le2 _ _ _ (by assumption)) _
  · intro ha z
    refine k_iload_n (pc' := 19) dX4_write_18 rfl ?_
    refine k_aload_n (pc' := 20) dX4_write_19 rfl ?_
    refine p_get (pc' := 23) clX6 (Nat.le_of_ble_eq_true rfl) fl_RX4_19 dX4_write_20 hT.1 (pP_T hT (by omega)).2.2.1 rfl ?_
    refine k_icmp_ge (tgt := 70) (pc' := 26) dX4_write_23 rfl (fun _ => ?_) (fun zz_ => absurd (nI_le (by omega) (by omega)) zz_)
    refine p_return dX4_write_70 rfl ?_
    exact ⟨rfl, rfl⟩
end SPELL
