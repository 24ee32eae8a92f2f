/-! rank: both -/
def TN (us : Nat → Nat) (s : Nat) : Nat → Nat
  | 0 => 18
  | j + 1 => if s.testBit j = true then TN us s j + us j - 3 else TN us s j
theorem appA_eq {m : List Nat} : ∀ l : List Nat, appA l m = l ++ m
  | [] => rfl
  | x :: l => by
    show x :: appA l m = x :: (l ++ m)
    rw [appA_eq l]
theorem mapA_eq {u : Nat} : ∀ l : List Nat, mapA u l = l.map (fun x => x + u - 3)
  | [] => rfl
  | x :: l => by
    show (x + u - 3) :: mapA u l = (x + u - 3) :: l.map _
    rw [mapA_eq l]
theorem TN_add {us : Nat → Nat} {j s : Nat} : ∀ i, i ≤ j → TN us (2 ^ j + s) i = TN us s i
  | 0, _ => rfl
  | i + 1, h => by
    show (if (2 ^ j + s).testBit i = true then _ else _) = (if s.testBit i = true then _ else _)
    rw [Nat.testBit_two_pow_add_gt (by omega), TN_add i (by omega)]
def SM (j : Nat) (us : Nat → Nat) (sm : List Nat) : Prop := sm.length = 2 ^ j ∧ ∀ s, s < 2 ^ j → sm[s]? = some (TN us s j)
theorem SM.step {j : Nat} {us : Nat → Nat} {sm : List Nat} (h : SM j us sm) : SM (j + 1) us (appA sm (mapA (us j) sm)) := by
  rw [appA_eq, mapA_eq]
  obtain ⟨h1, h2⟩ := h
  have e2 : 2 ^ (j + 1) = 2 ^ j + 2 ^ j := by rw [Nat.pow_succ]; omega
  refine ⟨by rw [List.length_append, List.length_map, h1, e2], fun s hs => ?_⟩
  by_cases q : s < 2 ^ j
  · rw [List.getElem?_append_left (by omega), h2 s q]
    show _ = some (if s.testBit j = true then _ else _)
    rw [Nat.testBit_lt_two_pow q, if_neg (by decide)]
  · obtain ⟨r, rfl⟩ : ∃ r, s = 2 ^ j + r := ⟨s - 2 ^ j, by omega⟩
    rw [List.getElem?_append_right (by omega), h1, show 2 ^ j + r - 2 ^ j = r by omega, List.getElem?_map, h2 r (by omega)]
    show some _ = some (if (2 ^ j + r).testBit j = true then _ else _)
    rw [Nat.testBit_two_pow_add_eq, Nat.testBit_lt_two_pow (show r < 2 ^ j by omega), if_pos (show (!false) = true from rfl), TN_add j (Nat.le_refl _)]
theorem bR_and {a b : Bool} (h : bR a b false = true) : a = true ∧ b = true := by
  cases a with
  | true => exact ⟨rfl, h⟩
  | false => exact absurd (show false = true from h) (by decide)
theorem allW_at {C k : Nat} {tb tb2 : List (List Nat)} {sm : List Nat} (h : allW C tb tb2 (k + 1) sm = true) {u : Nat} (hu : u ≤ 6) : allW C tb tb2 k (appA sm (mapA u sm)) = true := by
  have h' : bR (allW C tb tb2 k (appA sm (mapA 0 sm))) (bR (allW C tb tb2 k (appA sm (mapA 1 sm))) (bR (allW C tb tb2 k (appA sm (mapA 2 sm))) (bR (allW C tb tb2 k (appA sm (mapA 3 sm))) (bR (allW C tb tb2 k (appA sm (mapA 4 sm))) (bR (allW C tb tb2 k (appA sm (mapA 5 sm))) (allW C tb tb2 k (appA sm (mapA 6 sm))) false) false) false) false) false) false = true := h
  obtain ⟨a0, h1⟩ := bR_and h'
  obtain ⟨a1, h2⟩ := bR_and h1
  obtain ⟨a2, h3⟩ := bR_and h2
  obtain ⟨a3, h4⟩ := bR_and h3
  obtain ⟨a4, h5⟩ := bR_and h4
  obtain ⟨a5, a6⟩ := bR_and h5
  match u, hu with
  | 0, _ => exact a0
  | 1, _ => exact a1
  | 2, _ => exact a2
  | 3, _ => exact a3
  | 4, _ => exact a4
  | 5, _ => exact a5
  | 6, _ => exact a6
theorem allW_mk {C k : Nat} {tb tb2 : List (List Nat)} {sm : List Nat} (a0 : allW C tb tb2 k (appA sm (mapA 0 sm)) = true) (a1 : allW C tb tb2 k (appA sm (mapA 1 sm)) = true) (a2 : allW C tb tb2 k (appA sm (mapA 2 sm)) = true) (a3 : allW C tb tb2 k (appA sm (mapA 3 sm)) = true) (a4 : allW C tb tb2 k (appA sm (mapA 4 sm)) = true) (a5 : allW C tb tb2 k (appA sm (mapA 5 sm)) = true) (a6 : allW C tb tb2 k (appA sm (mapA 6 sm)) = true) : allW C tb tb2 (k + 1) sm = true := by
  show bR (allW C tb tb2 k (appA sm (mapA 0 sm))) (bR (allW C tb tb2 k (appA sm (mapA 1 sm))) (bR (allW C tb tb2 k (appA sm (mapA 2 sm))) (bR (allW C tb tb2 k (appA sm (mapA 3 sm))) (bR (allW C tb tb2 k (appA sm (mapA 4 sm))) (bR (allW C tb tb2 k (appA sm (mapA 5 sm))) (allW C tb tb2 k (appA sm (mapA 6 sm))) false) false) false) false) false) false = true
  rw [a0, a1, a2, a3, a4, a5, a6]
theorem allW_spec {C : Nat} {tb tb2 : List (List Nat)} {us : Nat → Nat} (hu : ∀ i, us i ≤ 6) : ∀ k j (sm : List Nat), allW C tb tb2 k sm = true → SM j us sm → ∃ sm', leaf C tb tb2 sm' = true ∧ SM (j + k) us sm'
  | 0, j, sm, h, hs => ⟨sm, h, hs⟩
  | k + 1, j, sm, h, hs => by
    obtain ⟨sm', a, b⟩ := allW_spec hu k (j + 1) _ (allW_at h (hu j)) hs.step
    exact ⟨sm', a, by rw [show j + (k + 1) = j + 1 + k by omega]; exact b⟩
theorem lastN_at : ∀ (l : List Nat) (n d : Nat), l.length = n + 1 → l[n]? = some (lastN l d)
  | [], _, _, h => by simp at h
  | [x], n, d, h => by
    obtain rfl : n = 0 := by simpa using h.symm
    rfl
  | x :: y :: l, 0, d, h => by simp at h
  | x :: y :: l, n + 1, d, h => by
    have := lastN_at (y :: l) n x (by simpa using h)
    rw [List.getElem?_cons_succ, this]
    rfl
theorem leaf_spec {C : Nat} {tb tb2 : List (List Nat)} {sm : List Nat} (h : leaf C tb tb2 sm = true) (h1 : 16 ≤ lastN sm 0) (h2 : lastN sm 0 ≤ 22) : siC (selR (tlL sm) tb) (repL C) 0 = siM C (selR (tlL sm) tb2) 4097 0 := by
  unfold leaf at h
  rw [show Nat.ble 16 (lastN sm 0) = true from Nat.ble_eq_true_of_le h1, show Nat.ble (lastN sm 0) 22 = true from Nat.ble_eq_true_of_le h2] at h
  exact Nat.eq_of_beq_eq_true h
theorem hasP_bit : ∀ s, s < 32 → ∀ j, j < 6 → decide (hasP (nI s) (j + 1)) = s.testBit j := by decide +kernel
theorem TN_val {us : Nat → Nat} {nu : Nat → Int32} {s : Nat} (hs : s < 32) (hu : ∀ i, us i ≤ 6) : ∀ j, j < 6 → (∀ i, i < j → nu (i + 1) = nI (us i) - nI 3) → 18 ≤ TN us s j + 3 * j ∧ TN us s j ≤ 18 + 3 * j ∧ nI (TN us s j) = nI 18 + sg j 1 (inP (nI s) nu)
  | 0, _, _ => ⟨by show 18 ≤ 18 + 3 * 0; omega, by show 18 ≤ 18 + 3 * 0; omega, by show nI 18 = nI 18 + 0; rw [Int32.add_zero]⟩
  | j + 1, hj, hn => by
    obtain ⟨a1, a2, a3⟩ := TN_val hs hu j (by omega) (fun i hi => hn i (by omega))
    have hb := hasP_bit s hs j (by omega)
    have hu' := hu j
    rw [sg_last, ← Int32.add_assoc, ← a3, show 1 + j = j + 1 by omega]
    show 18 ≤ (if s.testBit j = true then _ else _) + _ ∧ (if s.testBit j = true then _ else _) ≤ _ ∧ nI (if s.testBit j = true then _ else _) = _
    unfold inP
    by_cases q : hasP (nI s) (j + 1)
    · have e : s.testBit j = true := by rw [← hb]; exact decide_eq_true q
      rw [if_pos e, if_pos q]
      refine ⟨by omega, by omega, ?_⟩
      rw [hn j (by omega), ← show nI (TN us s j + us j) - nI 3 = nI (TN us s j + us j - 3) from pk_sub (by omega), ← nI_add]
      grind
    · have e : ¬ s.testBit j = true := by rw [← hb]; exact fun r => q (of_decide_eq_true r)
      rw [if_neg e, if_neg q]
      exact ⟨by omega, by omega, (Int32.add_zero _).symm⟩
def tbOk (f : Nat → List Nat → Bool) : Nat → List (List Nat) → Bool
  | _, [] => true
  | s, r :: rs => f s r && tbOk f (s + 1) rs
theorem okL_of {N : Nat} {nu : Nat → Int32} : ∀ (l : List Nat) (rs : List (List Nat)) (s : Nat), l.length = rs.length → (∀ i x, l[i]? = some x → (isRt N nu (nI (s + i)) ↔ (x = 18 ∨ x = 19))) → tbOk (rowC N) s rs = true → okL N nu s l rs
  | [], [], _, _, _, _ => trivial
  | [], _ :: _, _, h, _, _ => by simp at h
  | _ :: _, [], _, h, _, _ => by simp at h
  | x :: l, r :: rs, s, h, h1, h2 => by
    have h3 : (rowC N s r && tbOk (rowC N) (s + 1) rs) = true := h2
    rw [Bool.and_eq_true] at h3
    exact ⟨h1 0 x rfl, h3.1, okL_of l rs (s + 1) (by simpa using h) (fun i y hy => by
      have := h1 (i + 1) y hy
      rw [show s + 1 + i = s + (i + 1) by omega]
      exact this) h3.2⟩
theorem okM_of {N : Nat} {b : Nat → Int32} : ∀ (l : List Nat) (rs : List (List Nat)) (s : Nat), l.length = rs.length → s + l.length ≤ 32 → (∀ i x, l[i]? = some x → (mRt N (nI (s + i)) b = 0 ↔ (x = 18 ∨ x = 19))) → tbOk (rowM N) s rs = true → okM N b s l rs
  | [], [], _, _, _, _, _ => trivial
  | [], _ :: _, _, h, _, _, _ => by simp at h
  | _ :: _, [], _, h, _, _, _ => by simp at h
  | x :: l, r :: rs, s, h, h0, h1, h2 => by
    have h3 : (rowM N s r && tbOk (rowM N) (s + 1) rs) = true := h2
    rw [Bool.and_eq_true] at h3
    simp only [List.length_cons] at h0
    exact ⟨h1 0 x rfl, h3.1, by omega, okM_of l rs (s + 1) (by simpa using h) (by omega) (fun i y hy => by
      have := h1 (i + 1) y hy
      rw [show s + 1 + i = s + (i + 1) by omega]
      exact this) h3.2⟩
theorem adL_ex : ∀ (Bs : List (List Nat)) (f : List Nat), ∃ R q, ∀ k, adL Bs f k = k R q
  | [], f => ⟨[], false, fun _ => rfl⟩
  | B :: Bs, [] => ⟨B :: Bs, false, fun _ => rfl⟩
  | B :: Bs, x :: f => by
    have e : ∀ k, adL (B :: Bs) (x :: f) k = bR (Nat.beq x 0) (adL Bs f (fun R q => k (B :: R) q)) (@List.rec Nat (fun _ => Nat) (k ((x :: f) :: Bs) true) (fun y g _ => adL Bs (clr x y f g) (fun R q => k (B :: R) q)) B) := fun _ => rfl
    cases hx : Nat.beq x 0 with
    | true =>
      obtain ⟨R, q, h⟩ := adL_ex Bs f
      exact ⟨B :: R, q, fun k => by rw [e, hx]; exact h _⟩
    | false =>
      match B with
      | [] => exact ⟨(x :: f) :: Bs, true, fun k => by rw [e, hx]⟩
      | y :: g =>
        obtain ⟨R, q, h⟩ := adL_ex Bs (clr x y f g)
        exact ⟨(y :: g) :: R, q, fun k => by rw [e, hx]; exact h _⟩
theorem siC_le : ∀ (rs Bs : List (List Nat)) (n : Nat), siC rs Bs n ≤ n + rs.length
  | [], _, _ => Nat.le_refl _
  | r :: rs, Bs, n => by
    obtain ⟨R, q, h⟩ := adL_ex Bs r
    show adL Bs r (fun R q => siC rs R (bR q (Nat.add n 1) n)) ≤ _
    rw [h]
    have := siC_le rs R (bR q (Nat.add n 1) n)
    have h2 : bR q (Nat.add n 1) n ≤ n + 1 := by
      cases q with
      | true => exact Nat.le_refl _
      | false => exact Nat.le_succ n
    simp only [List.length_cons]
    omega
theorem selR_le : ∀ (l : List Nat) (rs : List (List Nat)), (selR l rs).length ≤ l.length
  | [], _ => Nat.le_refl _
  | _ :: _, [] => Nat.zero_le _
  | x :: l, r :: rs => by
    have := selR_le l rs
    show (bR (Nat.beq x 18) (r :: selR l rs) (bR (Nat.beq x 19) (r :: selR l rs) (selR l rs))).length ≤ _
    cases Nat.beq x 18 with
    | true => simp; exact this
    | false =>
      cases Nat.beq x 19 with
      | true => simp; exact this
      | false => exact Nat.le_succ_of_le this
def rkOk (N : Nat) (tb tb2 : List (List Nat)) : Prop := allW (pN N) tb tb2 (N - 1) [18] = true ∧ tbOk (rowC N) 1 tb = true ∧ tbOk (rowM N) 1 tb2 = true ∧ tb.length = lC N ∧ tb2.length = lC N
theorem rkOk2 : rkOk 2 tbR2 tbS2 := ⟨ak2, by decide +kernel, by decide +kernel, rfl, rfl⟩
theorem rkOk3 : rkOk 3 tbR3 tbS3 := ⟨ak3, by decide +kernel, by decide +kernel, rfl, rfl⟩
theorem rkOk4 : rkOk 4 tbR4 tbS4 := ⟨ak4, by decide +kernel, by decide +kernel, rfl, rfl⟩
theorem rkOk5 : rkOk 5 tbR5 tbS5 := ⟨ak5, by decide +kernel, by decide +kernel, rfl, rfl⟩
theorem rkOk6 : rkOk 6 tbR6 tbS6 := ⟨allW_mk (allW_mk ak_0_0 ak_0_1 ak_0_2 ak_0_3 ak_0_4 ak_0_5 ak_0_6) (allW_mk ak_1_0 ak_1_1 ak_1_2 ak_1_3 ak_1_4 ak_1_5 ak_1_6) (allW_mk ak_2_0 ak_2_1 ak_2_2 ak_2_3 ak_2_4 ak_2_5 ak_2_6) (allW_mk ak_3_0 ak_3_1 ak_3_2 ak_3_3 ak_3_4 ak_3_5 ak_3_6) (allW_mk ak_4_0 ak_4_1 ak_4_2 ak_4_3 ak_4_4 ak_4_5 ak_4_6) (allW_mk ak_5_0 ak_5_1 ak_5_2 ak_5_3 ak_5_4 ak_5_5 ak_5_6) (allW_mk ak_6_0 ak_6_1 ak_6_2 ak_6_3 ak_6_4 ak_6_5 ak_6_6), by decide +kernel, by decide +kernel, rfl, rfl⟩
theorem rkOk_all {N : Nat} (h2 : 2 ≤ N) (h6 : N ≤ 6) : ∃ tb tb2, rkOk N tb tb2 := by
  have h : N = 2 ∨ N = 3 ∨ N = 4 ∨ N = 5 ∨ N = 6 := by omega
  rcases h with rfl | rfl | rfl | rfl | rfl
  · exact ⟨_, _, rkOk2⟩
  · exact ⟨_, _, rkOk3⟩
  · exact ⟨_, _, rkOk4⟩
  · exact ⟨_, _, rkOk5⟩
  · exact ⟨_, _, rkOk6⟩
theorem sg_s {n : Nat} {h : Nat → Int32} : sg (n + 1) 0 h = h 0 + sg n 1 h := rfl
theorem r_rank {N : Nat} {nu b : Nat → Int32} {w : RS} {t : Nat → Int64} (h2 : 2 ≤ N) (h6 : N ≤ 6) (hw : isW N nu) (hb : ∀ k, k < N → nu k = b k) : (xRr N N nu w).2.2.2 = (rkA N (mRs N b t).1 (mRs N b t).2).2.1 := by
  obtain ⟨tb, tb2, k1, k2, k3, k4, k5⟩ := rkOk_all h2 h6
  obtain ⟨M, rfl⟩ : ∃ M, N = M + 1 := ⟨N - 1, by omega⟩
  have hl := lC_le h2 h6
  have hlC : lC (M + 1) = 2 ^ M - 1 := rfl
  obtain ⟨us, hus⟩ : ∃ us : Nat → Nat, us = fun i => if i + 1 < M + 1 then ((nu (i + 1)).toInt + 3).toNat else 3 := ⟨_, rfl⟩
  have u6 : ∀ i, us i ≤ 6 := by
    intro i
    rw [hus]
    dsimp only
    by_cases q : i + 1 < M + 1
    · rw [if_pos q]
      have := hw.1 (i + 1) q
      omega
    · rw [if_neg q]; omega
  have un : ∀ i, i < M → nu (i + 1) = nI (us i) - nI 3 := by
    intro i hi
    have hv := hw.1 (i + 1) (by omega)
    have e : us i = ((nu (i + 1)).toInt + 3).toNat := by rw [hus]; exact if_pos (by omega)
    have h6' := u6 i
    rw [iEq, Int32.toInt_sub, nI_e (by omega), nI_e (by omega), bm32 (by omega) (by omega), e]
    omega
  obtain ⟨sm, s1, s2⟩ := allW_spec (us := us) u6 M 0 [18] k1 ⟨rfl, fun s hs => by
    obtain rfl : s = 0 := by simpa using hs
    rfl⟩
  rw [Nat.zero_add] at s2
  obtain ⟨q1, q2⟩ := s2
  have val : ∀ s, s < 32 → TN us s M ≤ 33 ∧ nI (TN us s M) = nI 18 + tIC (M + 1) (nI s) nu := by
    intro s hs
    obtain ⟨a1, a2, a3⟩ := TN_val (us := us) (nu := nu) hs u6 M (by omega) un
    refine ⟨by omega, ?_⟩
    rw [a3, tIC_sg (by omega) h6 hs, sg_s, inP_0, Int32.zero_add]
  have p32 : 2 ^ M ≤ 32 := by
    have := Nat.pow_le_pow_right (n := 2) (by decide) (show M ≤ 5 by omega)
    omega
  have p1 : 2 ≤ 2 ^ M := by
    have := Nat.pow_le_pow_right (n := 2) (by decide) (show 1 ≤ M by omega)
    omega
  have rt : ∀ s, s < 32 → (isRt (M + 1) nu (nI s) ↔ (TN us s M = 18 ∨ TN us s M = 19)) := by
    intro s hs
    obtain ⟨v1, v2⟩ := val s hs
    unfold isRt
    have e1 : tIC (M + 1) (nI s) nu = 0 ↔ TN us s M = 18 := by
      constructor
      · intro q
        rw [q, Int32.add_zero] at v2
        exact nI_inj6 (by omega) (by omega) v2
      · intro q
        rw [q] at v2
        grind
    have e2 : tIC (M + 1) (nI s) nu = nI 1 ↔ TN us s M = 19 := by
      constructor
      · intro q
        rw [q, nI_add] at v2
        exact nI_inj6 (by omega) (by omega) v2
      · intro q
        rw [q, show nI 19 = nI 18 + nI 1 from (nI_add 18 1).symm] at v2
        grind
    rw [e1, e2]
  have tl : ∀ i x, (tlL sm)[i]? = some x → i + 1 < 2 ^ M ∧ x = TN us (1 + i) M := by
    intro i x h
    cases sm with
    | nil => exact absurd (show ([] : List Nat)[i]? = some x from h) (by simp)
    | cons y l =>
      have h' : (y :: l)[i + 1]? = some x := h
      have hi : i + 1 < (y :: l).length := (List.getElem?_eq_some_iff.mp h').1
      rw [q1] at hi
      rw [q2 _ hi] at h'
      exact ⟨hi, by rw [show 1 + i = i + 1 by omega]; exact (Option.some.inj h').symm⟩
  have tlen : (tlL sm).length = lC (M + 1) := by
    cases sm with
    | nil => simp at q1; omega
    | cons y l =>
      show l.length = _
      simp only [List.length_cons] at q1
      omega
  have last : lastN sm 0 = TN us (2 ^ M - 1) M := by
    have a1 := lastN_at sm (2 ^ M - 1) 0 (by omega)
    rw [q2 _ (by omega)] at a1
    exact (Option.some.inj a1).symm
  have rng : 16 ≤ lastN sm 0 ∧ lastN sm 0 ≤ 22 := by
    rw [last]
    obtain ⟨a1, a2, a3⟩ := TN_val (us := us) (nu := nu) (s := 2 ^ M - 1) (by omega) u6 M (by omega) un
    have e1 : sg M 1 (inP (nI (2 ^ M - 1)) nu) = sg M 1 nu := by
      refine sg_congr _ _ (fun k h3 h4 => if_pos ?_)
      have := hasP_bit (2 ^ M - 1) (by omega) (k - 1) (by omega)
      rw [Nat.testBit_two_pow_sub_one, decide_eq_true (show k - 1 < M by omega), show k - 1 + 1 = k by omega] at this
      exact of_decide_eq_true this
    have e2 : nu 0 + sg M 1 nu = 1 := by
      have := hw.2
      rw [wSum_sg, sg_s] at this
      exact this
    obtain ⟨u, hu, e3⟩ := w_v (hw.1 0 (by omega))
    have e4 : nI (TN us (2 ^ M - 1) M) = nI (22 - u) := by
      rw [a3, e1, ← show nI 22 - nI u = nI (22 - u) from pk_sub (by omega), show nI 22 = nI 18 + nI 1 + nI 3 by rw [nI_add, nI_add]]
      rw [e3] at e2
      rw [show nI 1 = (1 : Int32) from rfl]
      grind
    have := nI_inj6 (by omega) (by omega) e4
    omega
  have eq := leaf_spec s1 rng.1 rng.2
  have okl := okL_of (N := M + 1) (nu := nu) (tlL sm) tb 1 (by rw [tlen, k4]) (fun i x h => by
    obtain ⟨h3, rfl⟩ := tl i x h
    exact rt (1 + i) (by omega)) k2
  have okm := okM_of (N := M + 1) (b := b) (tlL sm) tb2 1 (by rw [tlen, k5]) (by rw [tlen]; omega) (fun i x h => by
    obtain ⟨h3, rfl⟩ := tl i x h
    rw [← r_isRt (by omega) h6 (s := 1 + i) (by omega) hw hb]
    exact rt (1 + i) (by omega)) k3
  have lt : siC (selR (tlL sm) tb) (repL (pN (M + 1))) 0 < 1000 := by
    have a1 := siC_le (selR (tlL sm) tb) (repL (pN (M + 1))) 0
    have a2 := selR_le (tlL sm) tb
    rw [tlen] at a2
    omega
  rw [r_rkC h6 tlen okl, r_rkM h2 h6 tlen okm (by rw [← eq]; exact lt), eq]
section PR4
variable {G : GT} {x y w : Int32}
theorem pr_roots : PrI G mX9_roots mX10_roots 5 4 [.int x, .int y] := by
  intro σ ⟨A, B, C, I, H, T, D, z, a, tb, hX, hM, hR⟩
  obtain ⟨k1, k2, -, k4, k5⟩ := hR.1
  have hl := lC_le k1 k2
  obtain ⟨sz, r5⟩ := hR.2.2.2.2.1
  refine ConP.mono (x_roots hX r5.s1) (fun v σ1 h => ?_)
  rcases h with ⟨hc, rfl, hX1, hh⟩ | ⟨k, rfl, hk, hy, h⟩
  · refine stI hh hM (ConP.mono (m_roots k1 k2) (fun v' σ2 h' => ?_))
    rcases h' with ⟨_, h'⟩ | ⟨k, rfl, hk, hy, _⟩
    · exact fiI h' hX1 rfl rfl rfl hR
    · exact absurd ⟨hIn hk, hy⟩ hc
  · obtain ⟨b1, b2⟩ := r_bar (A := A) r5 hk k2
    rw [b1] at h
    rcases h with ⟨hr, rfl, hX1, hh⟩ | ⟨hr, w0, rfl, hX1, hh⟩
    · refine stI hh hM (ConP.mono (m_roots k1 k2) (fun v' σ2 h' => ?_))
      rcases h' with ⟨q, _⟩ | ⟨k', e, _, _, h'⟩
      · exact absurd ⟨hIn hk, hy⟩ q
      · have := nI_inj6 (by omega) (by omega) e
        subst this
        rcases h' with ⟨_, h'⟩ | ⟨q, _⟩
        · exact fiI h' hX1 rfl rfl rfl hR
        · exact absurd q hr
    · refine stI hh hM (ConP.mono (m_roots k1 k2) (fun v' σ2 h' => ?_))
      rcases h' with ⟨q, _⟩ | ⟨k', e, _, _, h'⟩
      · exact absurd ⟨hIn hk, hy⟩ q
      · have := nI_inj6 (by omega) (by omega) e
        subst this
        rcases h' with ⟨q, _⟩ | ⟨_, t', h'⟩
        · exact absurd hr q
        · refine fiI h' hX1 ?_ rfl rfl (hR.free (fun q x y => up_n (by omega)) rfl rfl)
          obtain ⟨d1, d2, d3, d4, d5⟩ := b2 hr
          rw [d3, r_rc (t := tb) k1 k2 d4 d5, r_rank (t := tb) (w := w0) k1 k2 d4 d5]
end PR4
