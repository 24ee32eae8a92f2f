/-! the world that both constructors left, place by place: by wip/whole/mkstart.py -/
set_option maxHeartbeats 8000000 in
theorem cells_ok {l : Launch} {D : va_G} {g : Nat → Nat} (b9 : Nat) (q1 : Nat) (q2 : Nat) (q3 : Nat) (q4 : Nat) (q5 : Nat) (q6 : Nat) (q7 : Nat) (q8 : Nat) (q9 : Nat) (q10 : Nat) (q11 : Nat) (q12 : Nat) (q13 : Nat) (q14 : Nat) (q15 : Nat) (q16 : Nat) (q17 : Nat) (q18 : Nat) (q19 : Nat) (q20 : Nat) (q21 : Nat) (q22 : Nat) (q23 : Nat) (q24 : Nat) (q25 : Nat) (q26 : Nat) (q27 : Nat) (q28 : Nat) (q29 : Nat) (q30 : Nat) (q31 : Nat) (q32 : Nat) (q33 : Nat) (q34 : Nat) (q35 : Nat) (q36 : Nat) (q37 : Nat) (q38 : Nat) (q39 : Nat) (q40 : Nat) (q41 : Nat) (q42 : Nat) (r43 : Nat → Nat) (q44 : Nat) (q45 : Nat) (q46 : Nat) (q47 : Nat) (q48 : Nat) (q49 : Nat) (r50 : Nat → Nat) (q51 : Nat) (q52 : Nat) (q53 : Nat) (q54 : Nat) (q55 : Nat) (q56 : Nat) (q57 : Nat) (q58 : Nat) (q59 : Nat) (q60 : Nat) (q61 : Nat) (q62 : Nat) (q63 : Nat) (q64 : Nat) (b10 : Nat) (pq1 : Nat) (pq2 : Nat) (pq3 : Nat) (pq4 : Nat) (pq5 : Nat) (pq6 : Nat) (pq7 : Nat) (pq8 : Nat) (pq9 : Nat) (pq10 : Nat) (pq11 : Nat) (pq12 : Nat) (pq13 : Nat) (pq14 : Nat) (pq15 : Nat) (pq16 : Nat) (pq17 : Nat) (pq18 : Nat) (pq19 : Nat) : chk (l, D, g, fun q => ([b9, q1, q2, q3, q4, q5, q6, q7, q8, q9, q10, q11, q12, q13, q14, q15, q16, q17, q18, q19, q20, q21, q22, q23, q24, q25, q26, q27, q28, q29, q30, q31, q53, q54, q55, q56, q57, q58, q59, q60, q61, q62, q63, q64, q32, q33, q34, q35, q36, q37, q38, q39, q40, q41, q42, r43 0, r43 1, r43 2, r43 3, r43 4, r43 5, q44, q45, q46, q47, q48, q49, r50 0, r50 1, r50 2, r50 3, r50 4, r50 5, r50 6, r50 7, r50 8, r50 9, r50 10, r50 11, r50 12, r50 13, r50 14, q51, q52, b10, pq1, pq2, pq3, pq4, pq5, pq6, pq7, pq8, pq9, pq10, pq11, pq12, pq13, pq14, pq15, pq16, pq17, pq18, pq19] : List Nat).getD q 0) (st0 (l, D, g, fun q => ([b9, q1, q2, q3, q4, q5, q6, q7, q8, q9, q10, q11, q12, q13, q14, q15, q16, q17, q18, q19, q20, q21, q22, q23, q24, q25, q26, q27, q28, q29, q30, q31, q53, q54, q55, q56, q57, q58, q59, q60, q61, q62, q63, q64, q32, q33, q34, q35, q36, q37, q38, q39, q40, q41, q42, r43 0, r43 1, r43 2, r43 3, r43 4, r43 5, q44, q45, q46, q47, q48, q49, r50 0, r50 1, r50 2, r50 3, r50 4, r50 5, r50 6, r50 7, r50 8, r50 9, r50 10, r50 11, r50 12, r50 13, r50 14, q51, q52, b10, pq1, pq2, pq3, pq4, pq5, pq6, pq7, pq8, pq9, pq10, pq11, pq12, pq13, pq14, pq15, pq16, pq17, pq18, pq19] : List Nat).getD q 0)) PLs (([] ++ bk9 (l, D, g, fun _ => 0) b9 q1 q2 q3 q4 q5 q6 q7 q8 q9 q10 q11 q12 q13 q14 q15 q16 q17 q18 q19 q20 q21 q22 q23 q24 q25 q26 q27 q28 q29 q30 q31 q32 q33 q34 q35 q36 q37 q38 q39 q40 q41 q42 r43 q44 q45 q46 q47 q48 q49 r50 q51 q52 q53 q54 q55 q56 q57 q58 q59 q60 q61 q62 q63 q64) ++ bk10 (l, D, g, fun _ => 0) b10 pq1 pq2 pq3 pq4 pq5 pq6 pq7 pq8 pq9 pq10 pq11 pq12 pq13 pq14 pq15 pq16 pq17 pq18 pq19) := by
  simp only [bk0, bk1, bk2, bk3, bk4, bk5, bk6, bk7, bk8, bk9, bk10, List.append_assoc, List.cons_append, List.nil_append]
  refine ⟨rfl, Or.inl rfl, ?_⟩
  refine ⟨rfl, Or.inl rfl, ?_⟩
  refine ⟨rfl, Or.inl rfl, ?_⟩
  refine ⟨rfl, Or.inl rfl, ?_⟩
  refine ⟨rfl, Or.inl rfl, ?_⟩
  refine ⟨rfl, Or.inl rfl, ?_⟩
  refine ⟨rfl, Or.inl rfl, ?_⟩
  refine ⟨rfl, Or.inl rfl, ?_⟩
  refine ⟨rfl, Or.inl rfl, ?_⟩
  refine ⟨rfl, Or.inr ⟨_, _, _, _, rfl, rfl, fun j hj => ?_⟩, ?_⟩
  · have h : j = 0 ∨ j = 1 ∨ j = 2 ∨ j = 3 ∨ j = 4 ∨ j = 5 ∨ j = 6 ∨ j = 7 := (by omega)
    rcases h with rfl | rfl | rfl | rfl | rfl | rfl | rfl | rfl <;> rfl
  refine ⟨rfl, Or.inl rfl, ?_⟩
  refine ⟨rfl, Or.inl rfl, ?_⟩
  refine ⟨rfl, Or.inl rfl, ?_⟩
  refine ⟨rfl, Or.inl rfl, ?_⟩
  refine ⟨rfl, Or.inl rfl, ?_⟩
  refine ⟨rfl, Or.inl rfl, ?_⟩
  refine ⟨rfl, Or.inl rfl, ?_⟩
  refine ⟨rfl, Or.inl rfl, ?_⟩
  refine ⟨rfl, Or.inl rfl, ?_⟩
  refine ⟨rfl, Or.inl rfl, ?_⟩
  refine ⟨rfl, Or.inl rfl, ?_⟩
  refine ⟨rfl, Or.inl rfl, ?_⟩
  refine ⟨rfl, Or.inl rfl, ?_⟩
  refine ⟨rfl, Or.inl rfl, ?_⟩
  refine ⟨rfl, Or.inl rfl, ?_⟩
  refine ⟨rfl, Or.inl rfl, ?_⟩
  refine ⟨rfl, Or.inl rfl, ?_⟩
  refine ⟨rfl, Or.inl rfl, ?_⟩
  refine ⟨rfl, Or.inl rfl, ?_⟩
  refine ⟨rfl, Or.inl rfl, ?_⟩
  refine ⟨rfl, Or.inl rfl, ?_⟩
  refine ⟨rfl, Or.inr ⟨_, _, _, _, rfl, rfl, fun j hj => ?_⟩, ?_⟩
  · have h : j = 0 ∨ j = 1 ∨ j = 2 ∨ j = 3 ∨ j = 4 ∨ j = 5 := (by omega)
    rcases h with rfl | rfl | rfl | rfl | rfl | rfl <;> rfl
  refine ⟨rfl, Or.inl rfl, ?_⟩
  refine ⟨rfl, Or.inl rfl, ?_⟩
  refine ⟨rfl, Or.inl rfl, ?_⟩
  refine ⟨rfl, Or.inl rfl, ?_⟩
  refine ⟨rfl, Or.inl rfl, ?_⟩
  refine ⟨rfl, Or.inl rfl, ?_⟩
  refine ⟨rfl, Or.inl rfl, ?_⟩
  refine ⟨rfl, Or.inl rfl, ?_⟩
  refine ⟨rfl, Or.inl rfl, ?_⟩
  refine ⟨rfl, Or.inl rfl, ?_⟩
  refine ⟨rfl, Or.inr ⟨_, _, _, _, rfl, rfl, fun j hj => ?_⟩, ?_⟩
  · have h : j = 0 ∨ j = 1 ∨ j = 2 ∨ j = 3 ∨ j = 4 ∨ j = 5 := (by omega)
    rcases h with rfl | rfl | rfl | rfl | rfl | rfl <;> rfl
  refine ⟨rfl, Or.inl rfl, ?_⟩
  refine ⟨rfl, Or.inl rfl, ?_⟩
  refine ⟨rfl, Or.inl rfl, ?_⟩
  refine ⟨rfl, Or.inl rfl, ?_⟩
  refine ⟨rfl, Or.inl rfl, ?_⟩
  refine ⟨rfl, Or.inl rfl, ?_⟩
  refine ⟨rfl, Or.inl rfl, ?_⟩
  refine ⟨rfl, Or.inl rfl, ?_⟩
  refine ⟨rfl, Or.inl rfl, ?_⟩
  refine ⟨rfl, Or.inl rfl, ?_⟩
  refine ⟨rfl, Or.inl rfl, ?_⟩
  refine ⟨rfl, Or.inr ⟨_, _, _, _, rfl, rfl, fun j hj => ?_⟩, ?_⟩
  · have h : j = 0 ∨ j = 1 ∨ j = 2 ∨ j = 3 ∨ j = 4 ∨ j = 5 ∨ j = 6 ∨ j = 7 ∨ j = 8 ∨ j = 9 ∨ j = 10 ∨ j = 11 ∨ j = 12 ∨ j = 13 ∨ j = 14 := (by omega)
    rcases h with rfl | rfl | rfl | rfl | rfl | rfl | rfl | rfl | rfl | rfl | rfl | rfl | rfl | rfl | rfl <;> rfl
  refine ⟨rfl, Or.inl rfl, ?_⟩
  refine ⟨rfl, Or.inl rfl, ?_⟩
  refine ⟨rfl, Or.inl rfl, ?_⟩
  refine ⟨rfl, Or.inl rfl, ?_⟩
  refine ⟨rfl, Or.inl rfl, ?_⟩
  refine ⟨rfl, Or.inl rfl, ?_⟩
  refine ⟨rfl, Or.inl rfl, ?_⟩
  refine ⟨rfl, Or.inl rfl, ?_⟩
  refine ⟨rfl, Or.inl rfl, ?_⟩
  refine ⟨rfl, Or.inl rfl, ?_⟩
  refine ⟨rfl, Or.inl rfl, ?_⟩
  refine ⟨rfl, Or.inl rfl, ?_⟩
  refine ⟨rfl, Or.inl rfl, ?_⟩
  refine ⟨rfl, Or.inl rfl, ?_⟩
  refine ⟨rfl, Or.inl rfl, ?_⟩
  refine ⟨rfl, Or.inl rfl, ?_⟩
  refine ⟨rfl, Or.inl rfl, ?_⟩
  refine ⟨rfl, Or.inl rfl, ?_⟩
  refine ⟨rfl, Or.inl rfl, ?_⟩
  refine ⟨rfl, Or.inl rfl, ?_⟩
  refine ⟨rfl, Or.inl rfl, ?_⟩
  refine ⟨rfl, Or.inl rfl, ?_⟩
  refine ⟨rfl, Or.inl rfl, ?_⟩
  refine ⟨rfl, Or.inl rfl, ?_⟩
  refine ⟨rfl, Or.inl rfl, ?_⟩
  refine ⟨rfl, Or.inl rfl, ?_⟩
  refine ⟨rfl, Or.inl rfl, ?_⟩
  refine ⟨rfl, Or.inl rfl, ?_⟩
  refine ⟨rfl, Or.inl rfl, ?_⟩
  refine ⟨rfl, Or.inl rfl, ?_⟩
  refine ⟨rfl, Or.inl rfl, ?_⟩
  refine ⟨rfl, Or.inl rfl, ?_⟩
  refine ⟨rfl, Or.inl rfl, ?_⟩
  refine ⟨rfl, Or.inl rfl, ?_⟩
  refine ⟨rfl, Or.inl rfl, ?_⟩
  refine ⟨rfl, Or.inl rfl, ?_⟩
  refine ⟨rfl, Or.inl rfl, ?_⟩
  refine ⟨rfl, Or.inl rfl, ?_⟩
  refine ⟨rfl, Or.inl rfl, ?_⟩
  refine ⟨rfl, Or.inl rfl, ?_⟩
  refine ⟨rfl, Or.inl rfl, ?_⟩
  refine ⟨rfl, Or.inl rfl, ?_⟩
  refine ⟨rfl, Or.inl rfl, ?_⟩
  refine ⟨rfl, Or.inl rfl, ?_⟩
  refine ⟨rfl, Or.inl rfl, ?_⟩
  refine ⟨rfl, Or.inl rfl, ?_⟩
  refine ⟨rfl, Or.inl rfl, ?_⟩
  refine ⟨rfl, Or.inl rfl, ?_⟩
  refine ⟨rfl, Or.inl rfl, ?_⟩
  trivial
