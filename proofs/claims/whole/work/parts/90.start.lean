/-! the loop's first state; the entry: by wip/whole/mkstart.py -/
def A0 : XA := (4, fun _ => 0)
def B0 : XB := (fun _ => 0, fun _ => 0)
def C00 : XC := (0, 0, fun _ => 4, fun _ _ => 0)
def I0 : XI := (0, (4, fun _ => 0), (fun _ => 0, fun _ => 0))
def H0' : XH := (fun _ => 0, fun _ => 0, fun _ => 0, fun _ _ => 0)
def T0' : XT := (0, fun _ => 0)
theorem FR_0 : FR 4 (fun _ => 0) (fun _ => 0) := by
  intro i hi j hj
  unfold dT
  split <;> rfl
theorem DK_0 : DK 4 (fun _ => 0) (nI 4) (fun _ => 0) := ⟨by decide, by decide, rfl, fun p _ => ⟨by decide, by decide⟩, FR_0⟩
theorem PLR_0 : PLR 4 (fun _ => 0, fun _ => 0) (fun _ => 0) (fun _ => 0) := fun p _ => ⟨rfl, rfl, fun _ => ⟨rfl, rfl⟩, ⟨0, by omega, rfl⟩, ⟨0, by omega, rfl⟩⟩
theorem Rel_0 : Rel A0 B0 C00 I0 H0' T0' 0 (fun _ => 0) (fun _ _ => 0) := by
  refine ⟨DK_0, PLR_0, ⟨rfl, by decide, by decide, fun k hk => absurd hk (Nat.not_lt_zero _)⟩, Or.inl ⟨rfl, rfl⟩, ⟨fun _ => 0, fun h _ => ⟨rfl, by decide, rfl, by decide, fun q => by rcases q with q | q <;> exact absurd q (by decide)⟩, fun h _ => ⟨fun q => absurd q (by show ¬ (0 : Nat) = 1; decide), fun q => absurd q (by show ¬ (0 : Nat) = 2; decide), fun q => absurd q (by show ¬ (0 : Nat) = 3; decide), fun q => absurd rfl q⟩⟩, by decide, fun k hk => absurd hk (Nat.not_lt_zero _)⟩
/-- a store with all at its first values -/
def st0 (G : GT) : Sto := fun q => match q with
  | 0 => ob 9 (xFs G 0)
  | 5 => ob 2 [.ref (adr G 6), .ref (adr G 7)]
  | 6 => aI G 6 (fun _ => 0)
  | 7 => aI G 6 (fun _ => 0)
  | 8 => ob 0 [.ref (adr G 9), .int (nI 0), .int (nI 0)]
  | 9 => aR G 3 8 (fun k => 10 + 2 * k)
  | 28 => ob 2 [.ref (adr G 29), .ref (adr G 30)]
  | 29 => aI G 6 (fun _ => 0)
  | 30 => aI G 6 (fun _ => 0)
  | 31 => aR G 4 6 (fun h => 32 + 2 * h)
  | 44 => ob 7 [.ref (adr G 45), .int (nI 0), .int (nI 0)]
  | 45 => aI G 80 (fun _ => 0)
  | 46 => ob 4 [.ref (adr G 47), .int (nI 0)]
  | 47 => aI G 61 (fun _ => 0)
  | 48 => ob 8 [.ref (adr G 49), .int 0, .int (nI 0), .int (nI 0), .ref (adr G 51), .ref (adr G 52), .ref (adr G 53), .ref (adr G 54)]
  | 51 => aI G 6 (fun _ => 0)
  | 52 => aI G 7 (fun _ => 0)
  | 53 => aI G 7 (fun _ => 0)
  | 54 => aR G 5 6 (fun k => 55 + k)
  | 61 => ob 5 [.ref (adr G 62), .ref (adr G 63), .ref (adr G 64), .int (nI 0), .int (nI 0)]
  | 62 => aI G 32 (fun _ => 0)
  | 63 => aI G 32 (fun _ => 0)
  | 64 => aI G 15 (fun _ => 0)
  | 65 => ob 3 [.ref (adr G 66), .ref (adr G 82), .ref (adr G 83), .int (nI 0), .int (nI 0)]
  | 66 => aR G 6 15 (fun k => 67 + k)
  | 82 => aJ G 15 (fun _ => 0)
  | 83 => aZ G 15 (fun _ => 0)
  | q => if q = 1 ∨ q = 3 ∨ (10 ≤ q ∧ q < 26 ∧ q % 2 = 0) ∨ q = 26 ∨ q = 49 then ob 6 [.int (nI 4), .ref (adr G (q + 1))]
    else if q = 2 ∨ q = 4 ∨ (10 ≤ q ∧ q < 28) ∨ q = 50 then aI G 15 (fun _ => 0)
    else if 32 ≤ q ∧ q < 44 then (if q % 2 = 0 then ob 1 [.int (nI 0), .int (nI 0), .int (nI 0), .ref (adr G (q + 1))] else aI G 20 (fun _ => 0))
    else if 55 ≤ q ∧ q < 61 then aI G 6 (fun _ => 0)
    else if 67 ≤ q ∧ q < 82 then aJ G 15 (fun _ => 0)
    else putM G (fun _ => aI G 0 (fun _ => 0)) 4 0 0 (fun _ => 0) (fun _ _ => 0) (fun _ => 0) q
theorem st0_T {G : GT} {t : Nat} (h : t = 1 ∨ t = 3 ∨ t = 10 ∨ t = 12 ∨ t = 14 ∨ t = 16 ∨ t = 18 ∨ t = 20 ∨ t = 22 ∨ t = 24 ∨ t = 26 ∨ t = 49) : isT G (st0 G) t 4 (fun _ => 0) := by
  rcases h with rfl | rfl | rfl | rfl | rfl | rfl | rfl | rfl | rfl | rfl | rfl | rfl <;> exact ⟨by decide, by decide, rfl, rfl, by decide, by decide⟩
theorem st0_H {G : GT} {t : Nat} (h : t = 32 ∨ t = 34 ∨ t = 36 ∨ t = 38 ∨ t = 40 ∨ t = 42) : isH G (st0 G) t 0 0 0 (fun _ => 0) := by
  rcases h with rfl | rfl | rfl | rfl | rfl | rfl <;> exact ⟨by decide, rfl, rfl, by decide⟩
theorem RR_0 {G : GT} : RR G (st0 G) := by
  refine ⟨A0, B0, C00, I0, H0', T0', 0, fun _ => 0, fun _ _ => 0, fun _ => 0, ?_, ?_, Rel_0⟩
  · refine ⟨rfl, st0_T (by omega), ⟨4, _, st0_T (by omega)⟩, ⟨by decide, rfl, rfl, rfl⟩, ⟨rfl, rfl, fun k hk => st0_T (by omega), by decide, by decide⟩, st0_T (by omega), ⟨by decide, rfl, rfl, rfl⟩, rfl, fun h hh => st0_H (by omega), ⟨0, ?_⟩, ⟨(fun _ => 0, 0), ?_⟩, ⟨0, 0, 0, (fun _ => 0, fun _ => 0, fun _ => 0, fun _ _ => 0), ?_, rfl, ⟨4, _, st0_T (by omega)⟩, rfl, fun _ => rfl⟩, ⟨0, 0, (fun _ => 0, fun _ => 0, fun _ => 0), ?_⟩, ⟨0, (fun _ _ => 0, fun _ => 0, fun _ => 0, 0), ?_, rfl⟩⟩
    · unfold putTp
      rw [up_id (k := 44) rfl, up_id (k := 45) rfl]
    · unfold putSp
      rw [up_id (k := 46) rfl, up_id (k := 47) rfl]
    · funext q
      unfold putW
      by_cases h1 : q = 48
      · subst h1; rfl
      by_cases h2 : q = 51
      · subst h2; rfl
      by_cases h3 : q = 52
      · subst h3; rfl
      by_cases h4 : q = 53
      · subst h4; rfl
      by_cases h5 : 55 ≤ q ∧ q < 61
      · have h : q = 55 ∨ q = 56 ∨ q = 57 ∨ q = 58 ∨ q = 59 ∨ q = 60 := by omega
        rcases h with rfl | rfl | rfl | rfl | rfl | rfl <;> rfl
      · rw [if_neg h1, if_neg h2, if_neg h3, if_neg h4, if_neg h5]
    · funext q
      unfold putS
      by_cases h1 : q = 61
      · subst h1; rfl
      by_cases h2 : q = 62
      · subst h2; rfl
      by_cases h3 : q = 63
      · subst h3; rfl
      by_cases h4 : q = 64
      · subst h4; rfl
      rw [if_neg h1, if_neg h2, if_neg h3, if_neg h4]
    · funext q
      unfold putR
      by_cases h1 : q = 65
      · subst h1; rfl
      by_cases h2 : 67 ≤ q ∧ q < 82
      · have h : q = 67 ∨ q = 68 ∨ q = 69 ∨ q = 70 ∨ q = 71 ∨ q = 72 ∨ q = 73 ∨ q = 74 ∨ q = 75 ∨ q = 76 ∨ q = 77 ∨ q = 78 ∨ q = 79 ∨ q = 80 ∨ q = 81 := by omega
        rcases h with rfl | rfl | rfl | rfl | rfl | rfl | rfl | rfl | rfl | rfl | rfl | rfl | rfl | rfl | rfl <;> rfl
      by_cases h3 : q = 82
      · subst h3; rfl
      by_cases h4 : q = 83
      · subst h4; rfl
      rw [if_neg h1, if_neg h2, if_neg h3, if_neg h4]
  · funext q
    by_cases h : 84 ≤ q ∧ q < 104
    · have hq : q = 84 ∨ q = 85 ∨ q = 86 ∨ q = 87 ∨ q = 88 ∨ q = 89 ∨ q = 90 ∨ q = 91 ∨ q = 92 ∨ q = 93 ∨ q = 94 ∨ q = 95 ∨ q = 96 ∨ q = 97 ∨ q = 98 ∨ q = 99 ∨ q = 100 ∨ q = 101 ∨ q = 102 ∨ q = 103 := by omega
      rcases hq with rfl | rfl | rfl | rfl | rfl | rfl | rfl | rfl | rfl | rfl | rfl | rfl | rfl | rfl | rfl | rfl | rfl | rfl | rfl | rfl <;> rfl
    · exact pMn (by omega)
/-- the loop's first state, out of the world that both constructors left -/
theorem law_first {p : Program} {e : Env} {s : State} {m : MethodId} {below : List Frame} {meth : Method} {c : Code} {l : Launch} {D : va_G} {g ad : Nat → Nat} {b L ck cs : Nat} {xs : Nat → Int32} {W : va_W} (hL : L ≤ 2048) (C0 : lw_At p s m meth c b L xs) (hK : gKK (l, D, g, ad) s) (hck : ck ≤ 600000) (hcs : cs ≤ 7302250) (hlen : W.length = 104) (hc : ∀ q, q < 104 → ∃ x, W[posW q]? = some (ad q, x) ∧ eqC x (st0 (l, D, g, ad) q)) : LQ p e s m below meth c (l, D, g, ad) b 18 [some (.ref b), some (.ref (ad 0)), some (.ref (ad 84)), some (.int (nI 0))] [] W ck cs := by
  refine q_wide hck hcs ?_
  intro H locs ls hP hD hS hl
  obtain ⟨hP', hD'⟩ := world_by (G := (l, D, g, ad)) (σ := st0 (l, D, g, ad)) hlen hc hP hD
  exact law_loop (G := (l, D, g, ad)) C0 hK hL L 0 (st0 (l, D, g, ad)) (by omega) (by omega) RR_0 H locs ls hP' hD' hS hl
theorem whole_start {p : Program} {e : Env} {s : State} {m : MethodId} {below : List Frame} {meth : Method} {c : Code} (l : Launch) (hflags : l.flags = flags0) {b L : Nat} {xs : Nat → Int32} (hL : L ≤ 2048) (C0 : lw_At p s m meth c b L xs) : W p l e room_1 s m #[Value.ref b] below meth c s.heap [] 0 0 (lw_Z below #[Value.ref b] s) (entryFrame m ([Value.ref b] : List Value).toArray 4) := by
  obtain ⟨D, g, hK⟩ := law_known C0
  have hl := lv_entry ([.ref b]) (n := 4) (Nat.le_of_ble_eq_true rfl)
  rw [lg_entry_eq]
  generalize (lg_sl ([.ref b]) ++ List.replicate (4 - (lg_sl ([.ref b])).length) Slot.unset).toArray = ls at hl ⊢
  have hl : lv_has ls 4 [(0, .ref b)] := hl
  have hK0 : ∀ ad : Nat → Nat, gKK (l, D, g, ad) s := fun _ => hK
  have key : LQ p e s m below meth c (l, D, g, fun _ => 0) b 0 [some (.ref b), none, none, none] [] [] 0 0 := by
    refine q_new (pc' := 3) (ty := tyX9) (fs := [.null, .null, .null, .null, .null, .null, .int 0, .null, .null, .null, .null, .null, .null]) C0 (hK0 _) clX9 dL_law_0 (TT_of (List.mem_of_getElem? (i := 111) (by decide +kernel)) rfl) (TT_of (List.mem_of_getElem? (i := 112) (by decide +kernel)) rfl) (TT_of (List.mem_of_getElem? (i := 98) (by decide +kernel)) rfl) (fun j hj => by have h : j = 0 ∨ j = 1 ∨ j = 2 ∨ j = 3 ∨ j = 4 ∨ j = 5 ∨ j = 6 ∨ j = 7 ∨ j = 8 ∨ j = 9 ∨ j = 10 ∨ j = 11 ∨ j = 12 := (by omega); rcases h with rfl | rfl | rfl | rfl | rfl | rfl | rfl | rfl | rfl | rfl | rfl | rfl | rfl <;> rfl) ⟨by decide, by decide⟩ (fun b9 => ?_)
    refine q_dup (pc' := 4) C0 dL_law_3 rfl ?_
    refine q_init (pc' := 7) (ν := mX9_init) (As := []) (rest := [.ref b9]) C0 (hK0 _) dL_law_4 (TT_of (List.mem_of_getElem? (i := 113) (by decide +kernel)) rfl) mo_X9_init mc_X9_init rfl (i_X9 (G := (l, D, g, fun _ => 0)) (X := []) (b := b9)) (by decide) rfl rfl (Nat.le_of_ble_eq_true rfl) (Nat.le_of_ble_eq_true rfl) ⟨by decide, by decide⟩ (fun v ws' h => ?_)
    obtain ⟨rfl, q1, q2, q3, q4, q5, q6, q7, q8, q9, q10, q11, q12, q13, q14, q15, q16, q17, q18, q19, q20, q21, q22, q23, q24, q25, q26, q27, q28, q29, q30, q31, q32, q33, q34, q35, q36, q37, q38, q39, q40, q41, q42, r43, q44, q45, q46, q47, q48, q49, r50, q51, q52, q53, q54, q55, q56, q57, q58, q59, q60, q61, q62, q63, q64, rfl⟩ := h
    refine q_astore_n (pc' := 8) C0 dL_law_7 rfl ?_
    refine q_new (pc' := 11) (ty := tyX10) (fs := [.int 0, .null, .null, .null, .int 0, .null, .null, .null, .int 0, .null, .null, .null, .int 0, .int 0, .null, .null, .null, .null, .int 0, .null, .null, .null, .null, .int 0, .int 0, .int 0, .int 0, .int 0, .int 0, .null, .null, .int 0]) C0 (hK0 _) clX10 dL_law_8 (TT_of (List.mem_of_getElem? (i := 816) (by decide +kernel)) rfl) (TT_of (List.mem_of_getElem? (i := 817) (by decide +kernel)) rfl) (TT_of (List.mem_of_getElem? (i := 108) (by decide +kernel)) rfl) (fun j hj => by have h : j = 0 ∨ j = 1 ∨ j = 2 ∨ j = 3 ∨ j = 4 ∨ j = 5 ∨ j = 6 ∨ j = 7 ∨ j = 8 ∨ j = 9 ∨ j = 10 ∨ j = 11 ∨ j = 12 ∨ j = 13 ∨ j = 14 ∨ j = 15 ∨ j = 16 ∨ j = 17 ∨ j = 18 ∨ j = 19 ∨ j = 20 ∨ j = 21 ∨ j = 22 ∨ j = 23 ∨ j = 24 ∨ j = 25 ∨ j = 26 ∨ j = 27 ∨ j = 28 ∨ j = 29 ∨ j = 30 ∨ j = 31 := (by omega); rcases h with rfl | rfl | rfl | rfl | rfl | rfl | rfl | rfl | rfl | rfl | rfl | rfl | rfl | rfl | rfl | rfl | rfl | rfl | rfl | rfl | rfl | rfl | rfl | rfl | rfl | rfl | rfl | rfl | rfl | rfl | rfl | rfl <;> rfl) ⟨by decide, by decide⟩ (fun b10 => ?_)
    refine q_dup (pc' := 12) C0 dL_law_11 rfl ?_
    refine q_init (pc' := 15) (ν := mX10_init) (As := []) (rest := [.ref b10]) C0 (hK0 _) dL_law_12 (TT_of (List.mem_of_getElem? (i := 818) (by decide +kernel)) rfl) mo_X10_init mc_X10_init rfl (i_X10 (G := (l, D, g, fun _ => 0)) (b := b10)) (by decide) rfl rfl (Nat.le_of_ble_eq_true rfl) (Nat.le_of_ble_eq_true rfl) ⟨by decide, by decide⟩ (fun v ws' h => ?_)
    obtain ⟨rfl, pq1, pq2, pq3, pq4, pq5, pq6, pq7, pq8, pq9, pq10, pq11, pq12, pq13, pq14, pq15, pq16, pq17, pq18, pq19, rfl⟩ := h
    refine q_astore_n (pc' := 16) C0 dL_law_15 rfl ?_
    refine q_iconst (pc' := 17) (v := nI 0) C0 dL_law_16 rfl ?_
    refine q_istore_n (pc' := 18) C0 dL_law_17 rfl ?_
    refine law_first (l := l) (D := D) (g := g) (ad := fun q => match q with | 0 => b9 | 1 => q1 | 2 => q2 | 3 => q3 | 4 => q4 | 5 => q5 | 6 => q6 | 7 => q7 | 8 => q8 | 9 => q9 | 10 => q10 | 11 => q11 | 12 => q12 | 13 => q13 | 14 => q14 | 15 => q15 | 16 => q16 | 17 => q17 | 18 => q18 | 19 => q19 | 20 => q20 | 21 => q21 | 22 => q22 | 23 => q23 | 24 => q24 | 25 => q25 | 26 => q26 | 27 => q27 | 28 => q28 | 29 => q29 | 30 => q30 | 31 => q31 | 32 => q53 | 33 => q54 | 34 => q55 | 35 => q56 | 36 => q57 | 37 => q58 | 38 => q59 | 39 => q60 | 40 => q61 | 41 => q62 | 42 => q63 | 43 => q64 | 44 => q32 | 45 => q33 | 46 => q34 | 47 => q35 | 48 => q36 | 49 => q37 | 50 => q38 | 51 => q39 | 52 => q40 | 53 => q41 | 54 => q42 | 55 => r43 0 | 56 => r43 1 | 57 => r43 2 | 58 => r43 3 | 59 => r43 4 | 60 => r43 5 | 61 => q44 | 62 => q45 | 63 => q46 | 64 => q47 | 65 => q48 | 66 => q49 | 67 => r50 0 | 68 => r50 1 | 69 => r50 2 | 70 => r50 3 | 71 => r50 4 | 72 => r50 5 | 73 => r50 6 | 74 => r50 7 | 75 => r50 8 | 76 => r50 9 | 77 => r50 10 | 78 => r50 11 | 79 => r50 12 | 80 => r50 13 | 81 => r50 14 | 82 => q51 | 83 => q52 | 84 => b10 | 85 => pq1 | 86 => pq2 | 87 => pq3 | 88 => pq4 | 89 => pq5 | 90 => pq6 | 91 => pq7 | 92 => pq8 | 93 => pq9 | 94 => pq10 | 95 => pq11 | 96 => pq12 | 97 => pq13 | 98 => pq14 | 99 => pq15 | 100 => pq16 | 101 => pq17 | 102 => pq18 | _ => pq19) hL C0 (hK0 _) ?_ ?_ ?_ ?_
    · decide
    · decide
    · rfl
    · intro q hq
      have h : q = 0 ∨ q = 1 ∨ q = 2 ∨ q = 3 ∨ q = 4 ∨ q = 5 ∨ q = 6 ∨ q = 7 ∨ q = 8 ∨ q = 9 ∨ q = 10 ∨ q = 11 ∨ q = 12 ∨ q = 13 ∨ q = 14 ∨ q = 15 ∨ q = 16 ∨ q = 17 ∨ q = 18 ∨ q = 19 ∨ q = 20 ∨ q = 21 ∨ q = 22 ∨ q = 23 ∨ q = 24 ∨ q = 25 ∨ q = 26 ∨ q = 27 ∨ q = 28 ∨ q = 29 ∨ q = 30 ∨ q = 31 ∨ q = 32 ∨ q = 33 ∨ q = 34 ∨ q = 35 ∨ q = 36 ∨ q = 37 ∨ q = 38 ∨ q = 39 ∨ q = 40 ∨ q = 41 ∨ q = 42 ∨ q = 43 ∨ q = 44 ∨ q = 45 ∨ q = 46 ∨ q = 47 ∨ q = 48 ∨ q = 49 ∨ q = 50 ∨ q = 51 ∨ q = 52 ∨ q = 53 ∨ q = 54 ∨ q = 55 ∨ q = 56 ∨ q = 57 ∨ q = 58 ∨ q = 59 ∨ q = 60 ∨ q = 61 ∨ q = 62 ∨ q = 63 ∨ q = 64 ∨ q = 65 ∨ q = 66 ∨ q = 67 ∨ q = 68 ∨ q = 69 ∨ q = 70 ∨ q = 71 ∨ q = 72 ∨ q = 73 ∨ q = 74 ∨ q = 75 ∨ q = 76 ∨ q = 77 ∨ q = 78 ∨ q = 79 ∨ q = 80 ∨ q = 81 ∨ q = 82 ∨ q = 83 ∨ q = 84 ∨ q = 85 ∨ q = 86 ∨ q = 87 ∨ q = 88 ∨ q = 89 ∨ q = 90 ∨ q = 91 ∨ q = 92 ∨ q = 93 ∨ q = 94 ∨ q = 95 ∨ q = 96 ∨ q = 97 ∨ q = 98 ∨ q = 99 ∨ q = 100 ∨ q = 101 ∨ q = 102 ∨ q = 103 := by omega
      rcases h with rfl | rfl | rfl | rfl | rfl | rfl | rfl | rfl | rfl | rfl | rfl | rfl | rfl | rfl | rfl | rfl | rfl | rfl | rfl | rfl | rfl | rfl | rfl | rfl | rfl | rfl | rfl | rfl | rfl | rfl | rfl | rfl | rfl | rfl | rfl | rfl | rfl | rfl | rfl | rfl | rfl | rfl | rfl | rfl | rfl | rfl | rfl | rfl | rfl | rfl | rfl | rfl | rfl | rfl | rfl | rfl | rfl | rfl | rfl | rfl | rfl | rfl | rfl | rfl | rfl | rfl | rfl | rfl | rfl | rfl | rfl | rfl | rfl | rfl | rfl | rfl | rfl | rfl | rfl | rfl | rfl | rfl | rfl | rfl | rfl | rfl | rfl | rfl | rfl | rfl | rfl | rfl | rfl | rfl | rfl | rfl | rfl | rfl | rfl | rfl | rfl | rfl | rfl | rfl
      · exact ⟨_, rfl, Or.inl rfl⟩
      · exact ⟨_, rfl, Or.inl rfl⟩
      · exact ⟨_, rfl, Or.inl rfl⟩
      · exact ⟨_, rfl, Or.inl rfl⟩
      · exact ⟨_, rfl, Or.inl rfl⟩
      · exact ⟨_, rfl, Or.inl rfl⟩
      · exact ⟨_, rfl, Or.inl rfl⟩
      · exact ⟨_, rfl, Or.inl rfl⟩
      · exact ⟨_, rfl, Or.inl rfl⟩
      · refine ⟨_, rfl, Or.inr ⟨_, _, _, _, rfl, rfl, fun j hj => ?_⟩⟩
        have h : j = 0 ∨ j = 1 ∨ j = 2 ∨ j = 3 ∨ j = 4 ∨ j = 5 ∨ j = 6 ∨ j = 7 := (by omega)
        rcases h with rfl | rfl | rfl | rfl | rfl | rfl | rfl | rfl <;> rfl
      · exact ⟨_, rfl, Or.inl rfl⟩
      · exact ⟨_, rfl, Or.inl rfl⟩
      · exact ⟨_, rfl, Or.inl rfl⟩
      · exact ⟨_, rfl, Or.inl rfl⟩
      · exact ⟨_, rfl, Or.inl rfl⟩
      · exact ⟨_, rfl, Or.inl rfl⟩
      · exact ⟨_, rfl, Or.inl rfl⟩
      · exact ⟨_, rfl, Or.inl rfl⟩
      · exact ⟨_, rfl, Or.inl rfl⟩
      · exact ⟨_, rfl, Or.inl rfl⟩
      · exact ⟨_, rfl, Or.inl rfl⟩
      · exact ⟨_, rfl, Or.inl rfl⟩
      · exact ⟨_, rfl, Or.inl rfl⟩
      · exact ⟨_, rfl, Or.inl rfl⟩
      · exact ⟨_, rfl, Or.inl rfl⟩
      · exact ⟨_, rfl, Or.inl rfl⟩
      · exact ⟨_, rfl, Or.inl rfl⟩
      · exact ⟨_, rfl, Or.inl rfl⟩
      · exact ⟨_, rfl, Or.inl rfl⟩
      · exact ⟨_, rfl, Or.inl rfl⟩
      · exact ⟨_, rfl, Or.inl rfl⟩
      · refine ⟨_, rfl, Or.inr ⟨_, _, _, _, rfl, rfl, fun j hj => ?_⟩⟩
        have h : j = 0 ∨ j = 1 ∨ j = 2 ∨ j = 3 ∨ j = 4 ∨ j = 5 := (by omega)
        rcases h with rfl | rfl | rfl | rfl | rfl | rfl <;> rfl
      · exact ⟨_, rfl, Or.inl rfl⟩
      · exact ⟨_, rfl, Or.inl rfl⟩
      · exact ⟨_, rfl, Or.inl rfl⟩
      · exact ⟨_, rfl, Or.inl rfl⟩
      · exact ⟨_, rfl, Or.inl rfl⟩
      · exact ⟨_, rfl, Or.inl rfl⟩
      · exact ⟨_, rfl, Or.inl rfl⟩
      · exact ⟨_, rfl, Or.inl rfl⟩
      · exact ⟨_, rfl, Or.inl rfl⟩
      · exact ⟨_, rfl, Or.inl rfl⟩
      · exact ⟨_, rfl, Or.inl rfl⟩
      · exact ⟨_, rfl, Or.inl rfl⟩
      · exact ⟨_, rfl, Or.inl rfl⟩
      · exact ⟨_, rfl, Or.inl rfl⟩
      · exact ⟨_, rfl, Or.inl rfl⟩
      · exact ⟨_, rfl, Or.inl rfl⟩
      · exact ⟨_, rfl, Or.inl rfl⟩
      · exact ⟨_, rfl, Or.inl rfl⟩
      · exact ⟨_, rfl, Or.inl rfl⟩
      · exact ⟨_, rfl, Or.inl rfl⟩
      · exact ⟨_, rfl, Or.inl rfl⟩
      · exact ⟨_, rfl, Or.inl rfl⟩
      · refine ⟨_, rfl, Or.inr ⟨_, _, _, _, rfl, rfl, fun j hj => ?_⟩⟩
        have h : j = 0 ∨ j = 1 ∨ j = 2 ∨ j = 3 ∨ j = 4 ∨ j = 5 := (by omega)
        rcases h with rfl | rfl | rfl | rfl | rfl | rfl <;> rfl
      · exact ⟨_, rfl, Or.inl rfl⟩
      · exact ⟨_, rfl, Or.inl rfl⟩
      · exact ⟨_, rfl, Or.inl rfl⟩
      · exact ⟨_, rfl, Or.inl rfl⟩
      · exact ⟨_, rfl, Or.inl rfl⟩
      · exact ⟨_, rfl, Or.inl rfl⟩
      · exact ⟨_, rfl, Or.inl rfl⟩
      · exact ⟨_, rfl, Or.inl rfl⟩
      · exact ⟨_, rfl, Or.inl rfl⟩
      · exact ⟨_, rfl, Or.inl rfl⟩
      · exact ⟨_, rfl, Or.inl rfl⟩
      · refine ⟨_, rfl, Or.inr ⟨_, _, _, _, rfl, rfl, fun j hj => ?_⟩⟩
        have h : j = 0 ∨ j = 1 ∨ j = 2 ∨ j = 3 ∨ j = 4 ∨ j = 5 ∨ j = 6 ∨ j = 7 ∨ j = 8 ∨ j = 9 ∨ j = 10 ∨ j = 11 ∨ j = 12 ∨ j = 13 ∨ j = 14 := (by omega)
        rcases h with rfl | rfl | rfl | rfl | rfl | rfl | rfl | rfl | rfl | rfl | rfl | rfl | rfl | rfl | rfl <;> rfl
      · exact ⟨_, rfl, Or.inl rfl⟩
      · exact ⟨_, rfl, Or.inl rfl⟩
      · exact ⟨_, rfl, Or.inl rfl⟩
      · exact ⟨_, rfl, Or.inl rfl⟩
      · exact ⟨_, rfl, Or.inl rfl⟩
      · exact ⟨_, rfl, Or.inl rfl⟩
      · exact ⟨_, rfl, Or.inl rfl⟩
      · exact ⟨_, rfl, Or.inl rfl⟩
      · exact ⟨_, rfl, Or.inl rfl⟩
      · exact ⟨_, rfl, Or.inl rfl⟩
      · exact ⟨_, rfl, Or.inl rfl⟩
      · exact ⟨_, rfl, Or.inl rfl⟩
      · exact ⟨_, rfl, Or.inl rfl⟩
      · exact ⟨_, rfl, Or.inl rfl⟩
      · exact ⟨_, rfl, Or.inl rfl⟩
      · exact ⟨_, rfl, Or.inl rfl⟩
      · exact ⟨_, rfl, Or.inl rfl⟩
      · exact ⟨_, rfl, Or.inl rfl⟩
      · exact ⟨_, rfl, Or.inl rfl⟩
      · exact ⟨_, rfl, Or.inl rfl⟩
      · exact ⟨_, rfl, Or.inl rfl⟩
      · exact ⟨_, rfl, Or.inl rfl⟩
      · exact ⟨_, rfl, Or.inl rfl⟩
      · exact ⟨_, rfl, Or.inl rfl⟩
      · exact ⟨_, rfl, Or.inl rfl⟩
      · exact ⟨_, rfl, Or.inl rfl⟩
      · exact ⟨_, rfl, Or.inl rfl⟩
      · exact ⟨_, rfl, Or.inl rfl⟩
      · exact ⟨_, rfl, Or.inl rfl⟩
      · exact ⟨_, rfl, Or.inl rfl⟩
      · exact ⟨_, rfl, Or.inl rfl⟩
      · exact ⟨_, rfl, Or.inl rfl⟩
      · exact ⟨_, rfl, Or.inl rfl⟩
      · exact ⟨_, rfl, Or.inl rfl⟩
      · exact ⟨_, rfl, Or.inl rfl⟩
      · exact ⟨_, rfl, Or.inl rfl⟩
      · exact ⟨_, rfl, Or.inl rfl⟩
  refine key s.heap [] ls (fun k q h => by simp at h) ⟨fun i j p q h => by simp at h, fun k q h => by simp at h⟩ va_S.rf (lhas.of hl (fun i v h => ?_))
  match i, h with
  | 0, h => cases h; exact List.mem_cons_self
  | 1, h => cases h
  | 2, h => cases h
  | 3, h => cases h
  | i + 4, h => simp at h
