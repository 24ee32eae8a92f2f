/-! the entry, by wip/whole/mkstart.py -/
theorem whole_start {p : Program} {e : Env} {s : State} {m : MethodId} {below : List Frame} {meth : Method} {c : Code} (l : Launch) (hflags : l.flags = flags0) {b L : Nat} {xs : Nat → Int32} (hL : L ≤ 2048) (C0 : lw_At p s m meth c b L xs) : W p l e room_1 s m #[Value.ref b] below meth c s.heap [] 0 0 (lw_Z below #[Value.ref b] s) (entryFrame m ([Value.ref b] : List Value).toArray 4) := by
  obtain ⟨D, g, hK⟩ := law_known C0
  have hl := lv_entry ([.ref b]) (n := 4) (Nat.le_of_ble_eq_true rfl)
  rw [lg_entry_eq]
  generalize (lg_sl ([.ref b]) ++ List.replicate (4 - (lg_sl ([.ref b])).length) Slot.unset).toArray = ls at hl ⊢
  have hl : lv_has ls 4 [(0, .ref b)] := hl
  have hK0 : ∀ ad : Nat → Nat, gKK (l, D, g, ad) s := fun _ => hK
  have key : LQ p e s m below meth c (l, D, g, fun _ => 0) b 0 [some (.ref b), none, none, none] [] [] 0 0 := by
    refine q_new (pc' := 3) (ty := tyX9) (fs := [.null, .null, .null, .null, .null, .null, .int 0, .null, .null, .null, .null, .null, .null]) C0 (hK0 _) clX9 dL_law_0 (TT_of (List.mem_of_getElem? (i := 111) (by decide +kernel)) rfl) (TT_of (List.mem_of_getElem? (i := 112) (by decide +kernel)) rfl) (TT_of (List.mem_of_getElem? (i := 98) (by decide +kernel)) rfl) (fun j hj => by have h : j = 0 ∨ j = 1 ∨ j = 2 ∨ j = 3 ∨ j = 4 ∨ j = 5 ∨ j = 6 ∨ j = 7 ∨ j = 8 ∨ j = 9 ∨ j = 10 ∨ j = 11 ∨ j = 12 := (by omega); rcases h with rfl | rfl | rfl | rfl | rfl | rfl | rfl | rfl | rfl | rfl | rfl | rfl | rfl <;> rfl) ⟨by decide, by decide⟩ (fun b9 => ?_)
    refine q_dup (pc' := 4) C0 dL_law_3 rfl ?_
    refine q_init (pc' := 7) (ν := mX9_init) (As := []) (rest := [.ref b9]) C0 (hK0 _) dL_law_4 (TT_of (List.mem_of_getElem? (i := 113) (by decide +kernel)) rfl) mo_X9_init mc_X9_init rfl (i_X9 (G := (l, D, g, fun _ => 0)) (X := []) (b := b9)) (by decide) rfl rfl (Nat.le_of_ble_eq_true rfl) (Nat.le_of_ble_eq_true rfl) ⟨by decide, by decide⟩ (fun v ws' h => ?_)
    obtain ⟨rfl, q1, q2, q3, q4, q5, q6, q7, q8, q9, q10, q11, q12, q13, q14, q15, q16, q17, q18, q19, q20, q21, q22, q23, q24, q25, q26, q27, q28, q29, q30, q31, q32, q33, q34, q35, q36, q37, q38, q39, q40, q41, q42, r43, q44, q45, q46, q47, q48, q49, r50, q51, q52, q53, q54, q55, q56, q57, q58, q59, q60, q61, q62, q63, q64, rfl⟩ := h
    refine q_astore_n (pc' := 8) C0 dL_law_7 rfl ?_
    refine q_new (pc' := 11) (ty := tyX10) (fs := [.int 0, .null, .null, .null, .int 0, .null, .null, .null, .int 0, .null, .null, .null, .int 0, .int 0, .null, .null, .null, .null, .int 0, .null, .null, .null, .null, .int 0, .int 0, .int 0, .int 0, .int 0, .int 0, .null, .null, .int 0]) C0 (hK0 _) clX10 dL_law_8 (TT_of (List.mem_of_getElem? (i := 816) (by decide +kernel)) rfl) (TT_of (List.mem_of_getElem? (i := 817) (by decide +kernel)) rfl) (TT_of (List.mem_of_getElem? (i := 108) (by decide +kernel)) rfl) (fun j hj => by have h : j = 0 ∨ j = 1 ∨ j = 2 ∨ j = 3 ∨ j = 4 ∨ j = 5 ∨ j = 6 ∨ j = 7 ∨ j = 8 ∨ j = 9 ∨ j = 10 ∨ j = 11 ∨ j = 12 ∨ j = 13 ∨ j = 14 ∨ j = 15 ∨ j = 16 ∨ j = 17 ∨ j = 18 ∨ j = 19 ∨ j = 20 ∨ j = 21 ∨ j = 22 ∨ j = 23 ∨ j = 24 ∨ j = 25 ∨ j = 26 ∨ j = 27 ∨ j = 28 ∨ j = 29 ∨ j = 30 ∨ j = 31 := (by omega); rcases h with rfl | rfl | rfl | rfl | rfl | rfl | rfl | rfl | rfl | rfl | rfl | rfl | rfl | rfl | rfl | rfl | rfl | rfl | rfl | rfl | rfl | rfl | rfl | rfl | rfl | rfl | rfl | rfl | rfl | rfl | rfl | rfl <;> rfl) ⟨by decide, by decide⟩ (fun b10 => ?_)
    refine q_dup (pc' := 12) C0 dL_law_11 rfl ?_
    refine q_init (pc' := 15) (ν := mX10_init) (As := []) (rest := [.ref b10]) C0 (hK0 _) dL_law_12 (TT_of (List.mem_of_getElem? (i := 818) (by decide +kernel)) rfl) mo_X10_init mc_X10_init rfl (i_X10 (G := (l, D, g, fun _ => 0)) (b := b10)) (by decide) rfl rfl (Nat.le_of_ble_eq_true rfl) (Nat.le_of_ble_eq_true rfl) ⟨by decide, by decide⟩ (fun v ws' h => ?_)
    obtain ⟨rfl, pq1, pq2, pq3, pq4, pq5, pq6, pq7, pq8, pq9, pq10, pq11, pq12, pq13, pq14, pq15, pq16, pq17, pq18, pq19, rfl⟩ := h
    refine q_astore_n (pc' := 16) C0 dL_law_15 rfl ?_
    refine q_iconst (pc' := 17) (v := nI 0) C0 dL_law_16 rfl ?_
    refine q_istore_n (pc' := 18) C0 dL_law_17 rfl ?_
    refine law_first (l := l) (D := D) (g := g) (ad := fun q => ([b9, q1, q2, q3, q4, q5, q6, q7, q8, q9, q10, q11, q12, q13, q14, q15, q16, q17, q18, q19, q20, q21, q22, q23, q24, q25, q26, q27, q28, q29, q30, q31, q53, q54, q55, q56, q57, q58, q59, q60, q61, q62, q63, q64, q32, q33, q34, q35, q36, q37, q38, q39, q40, q41, q42, r43 0, r43 1, r43 2, r43 3, r43 4, r43 5, q44, q45, q46, q47, q48, q49, r50 0, r50 1, r50 2, r50 3, r50 4, r50 5, r50 6, r50 7, r50 8, r50 9, r50 10, r50 11, r50 12, r50 13, r50 14, q51, q52, b10, pq1, pq2, pq3, pq4, pq5, pq6, pq7, pq8, pq9, pq10, pq11, pq12, pq13, pq14, pq15, pq16, pq17, pq18, pq19] : List Nat).getD q 0) hL C0 (hK0 _) (by decide) (by decide) ?_
    exact cells_ok b9 q1 q2 q3 q4 q5 q6 q7 q8 q9 q10 q11 q12 q13 q14 q15 q16 q17 q18 q19 q20 q21 q22 q23 q24 q25 q26 q27 q28 q29 q30 q31 q32 q33 q34 q35 q36 q37 q38 q39 q40 q41 q42 r43 q44 q45 q46 q47 q48 q49 r50 q51 q52 q53 q54 q55 q56 q57 q58 q59 q60 q61 q62 q63 q64 b10 pq1 pq2 pq3 pq4 pq5 pq6 pq7 pq8 pq9 pq10 pq11 pq12 pq13 pq14 pq15 pq16 pq17 pq18 pq19
  refine key s.heap [] ls (fun k q h => by simp at h) ⟨fun i j p q h => by simp at h, fun k q h => by simp at h⟩ va_S.rf (lhas.of hl (fun i v h => ?_))
  match i, h with
  | 0, h => cases h; exact List.mem_cons_self
  | 1, h => cases h
  | 2, h => cases h
  | 3, h => cases h
  | i + 4, h => simp at h
