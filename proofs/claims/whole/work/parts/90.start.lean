/-! the first state: by wip/whole/mkstart.py -/
def A0 : XA := (4, fun _ => 0)
def B0 : XB := (fun _ => 0, fun _ => 0)
def C00 : XC := (0, 0, fun _ => 4, fun _ _ => 0)
def I0 : XI := (0, (4, fun _ => 0), (fun _ => 0, fun _ => 0))
def H0' : XH := (fun _ => 0, fun _ => 0, fun _ => 0, fun _ _ => 0)
def T0' : XT := (0, fun _ => 0)
theorem FR_0 : FR 4 (fun _ => 0) (fun _ => 0) := by
  intro i hi j hj
  unfold dT
  split <;> rfl
theorem DK_0 : DK 4 (fun _ => 0) (nI 4) (fun _ => 0) := ⟨by decide, by decide, rfl, fun p _ => ⟨(show (0 : Int) ≤ (0 : Int32).toInt by decide), (show (0 : Int32).toInt ≤ 999 by decide)⟩, FR_0⟩
theorem PLR_0 : PLR 4 (fun _ => 0, fun _ => 0) (fun _ => 0) (fun _ => 0) := fun p _ => ⟨rfl, rfl, fun _ => ⟨rfl, rfl⟩, ⟨0, by omega, rfl⟩, ⟨0, by omega, rfl⟩⟩
theorem Rel_0 : Rel A0 B0 C00 I0 H0' T0' 0 (fun _ => 0) (fun _ _ => 0) := by
  refine ⟨DK_0, PLR_0, ⟨rfl, by decide, by decide, fun k hk => absurd hk (Nat.not_lt_zero _)⟩, Or.inl ⟨rfl, rfl⟩, ⟨fun _ => 0, fun h _ => ⟨rfl, Nat.zero_le 3, rfl, Nat.zero_le 20, fun q => ?_⟩, fun h _ => ⟨fun q => absurd (show (0 : Nat) = 1 from q) (by decide), fun q => absurd (show (0 : Nat) = 2 from q) (by decide), fun q => absurd (show (0 : Nat) = 3 from q) (by decide), fun q => absurd rfl q⟩⟩, Nat.zero_le 80, fun k hk => absurd hk (Nat.not_lt_zero _)⟩
  rcases q with q | q
  · exact absurd (show (0 : Nat) = 1 from q) (by decide)
  · exact absurd (show (0 : Nat) = 2 from q) (by decide)
/-- a store with all at its first values -/
def st0 (G : GT) : Sto := fun q => match q with
  | 0 => ob 9 (xFs G 0)
  | 5 => ob 2 [.ref (adr G 6), .ref (adr G 7)]
  | 6 => aI G 6 (fun _ => 0)
  | 7 => aI G 6 (fun _ => 0)
  | 8 => ob 0 [.ref (adr G 9), .int (nI 0), .int (nI 0)]
  | 9 => aR G 3 8 (fun k => 10 + 2 * k)
  | 28 => ob 2 [.ref (adr G 29), .ref (adr G 30)]
  | 29 => aI G 6 (fun _ => 0)
  | 30 => aI G 6 (fun _ => 0)
  | 31 => aR G 4 6 (fun h => 32 + 2 * h)
  | 44 => ob 7 [.ref (adr G 45), .int (nI 0), .int (nI 0)]
  | 45 => aI G 80 (fun _ => 0)
  | 46 => ob 4 [.ref (adr G 47), .int (nI 0)]
  | 47 => aI G 61 (fun _ => 0)
  | 48 => ob 8 [.ref (adr G 49), .int 0, .int (nI 0), .int (nI 0), .ref (adr G 51), .ref (adr G 52), .ref (adr G 53), .ref (adr G 54)]
  | 51 => aI G 6 (fun _ => 0)
  | 52 => aI G 7 (fun _ => 0)
  | 53 => aI G 7 (fun _ => 0)
  | 54 => aR G 5 6 (fun k => 55 + k)
  | 61 => ob 5 [.ref (adr G 62), .ref (adr G 63), .ref (adr G 64), .int (nI 0), .int (nI 0)]
  | 62 => aI G 32 (fun _ => 0)
  | 63 => aI G 32 (fun _ => 0)
  | 64 => aI G 15 (fun _ => 0)
  | 65 => ob 3 [.ref (adr G 66), .ref (adr G 82), .ref (adr G 83), .int (nI 0), .int (nI 0)]
  | 66 => aR G 6 15 (fun k => 67 + k)
  | 82 => aJ G 15 (fun _ => 0)
  | 83 => aZ G 15 (fun _ => 0)
  | q => if q = 1 ∨ q = 3 ∨ (10 ≤ q ∧ q < 26 ∧ q % 2 = 0) ∨ q = 26 ∨ q = 49 then ob 6 [.int (nI 4), .ref (adr G (q + 1))]
    else if q = 2 ∨ q = 4 ∨ (10 ≤ q ∧ q < 28) ∨ q = 50 then aI G 15 (fun _ => 0)
    else if 32 ≤ q ∧ q < 44 then (if q % 2 = 0 then ob 1 [.int (nI 0), .int (nI 0), .int (nI 0), .ref (adr G (q + 1))] else aI G 20 (fun _ => 0))
    else if 55 ≤ q ∧ q < 61 then aI G 6 (fun _ => 0)
    else if 67 ≤ q ∧ q < 82 then aJ G 15 (fun _ => 0)
    else putM G (fun _ => aI G 0 (fun _ => 0)) 4 0 0 (fun _ => 0) (fun _ _ => 0) (fun _ => 0) q
theorem st0_T {G : GT} {t : Nat} (h : t = 1 ∨ t = 3 ∨ t = 10 ∨ t = 12 ∨ t = 14 ∨ t = 16 ∨ t = 18 ∨ t = 20 ∨ t = 22 ∨ t = 24 ∨ t = 26 ∨ t = 49) : isT G (st0 G) t 4 (fun _ => 0) := by
  rcases h with rfl | rfl | rfl | rfl | rfl | rfl | rfl | rfl | rfl | rfl | rfl | rfl <;> exact ⟨by decide, by decide, rfl, rfl, by decide, by decide⟩
theorem st0_H {G : GT} {t : Nat} (h : t = 32 ∨ t = 34 ∨ t = 36 ∨ t = 38 ∨ t = 40 ∨ t = 42) : isH G (st0 G) t 0 0 0 (fun _ => 0) := by
  rcases h with rfl | rfl | rfl | rfl | rfl | rfl <;> exact ⟨by decide, rfl, rfl, by decide⟩
theorem RR_0 {G : GT} : RR G (st0 G) := by
  refine ⟨A0, B0, C00, I0, H0', T0', 0, fun _ => 0, fun _ _ => 0, fun _ => 0, ?_, ?_, Rel_0⟩
  · refine ⟨rfl, st0_T (by omega), ⟨4, _, st0_T (by omega)⟩, ⟨by decide, rfl, rfl, rfl⟩, ⟨rfl, rfl, fun k hk => st0_T (by omega), by decide, by decide⟩, st0_T (by omega), ⟨by decide, rfl, rfl, rfl⟩, rfl, fun h hh => st0_H (by omega), ⟨0, ?_⟩, ⟨(fun _ => 0, 0), ?_⟩, ⟨0, 0, 0, (fun _ => 0, fun _ => 0, fun _ => 0, fun _ _ => 0), ?_, rfl, ⟨4, _, st0_T (by omega)⟩, rfl, fun _ => rfl⟩, ⟨0, 0, (fun _ => 0, fun _ => 0, fun _ => 0), ?_⟩, ⟨0, (fun _ _ => 0, fun _ => 0, fun _ => 0, 0), ?_, rfl⟩⟩
    · unfold putTp
      rw [up_id (show st0 G 44 = ob 7 [Value.ref (adr G 45), Value.int (nI T0'.1), Value.int (nI 0)] from rfl), up_id (show st0 G 45 = aI G 80 T0'.2 from rfl)]
    · unfold putSp
      rw [up_id (show st0 G 46 = ob 4 [Value.ref (adr G 47), Value.int (nI ((fun _ => 0, 0) : SP).2)] from rfl), up_id (show st0 G 47 = aI G 61 ((fun _ => 0, 0) : SP).1 from rfl)]
    · funext q
      unfold putW
      by_cases h1 : q = 48
      · subst h1; rfl
      by_cases h2 : q = 51
      · subst h2; rfl
      by_cases h3 : q = 52
      · subst h3; rfl
      by_cases h4 : q = 53
      · subst h4; rfl
      by_cases h5 : 55 ≤ q ∧ q < 61
      · have h : q = 55 ∨ q = 56 ∨ q = 57 ∨ q = 58 ∨ q = 59 ∨ q = 60 := by omega
        rcases h with rfl | rfl | rfl | rfl | rfl | rfl <;> rfl
      · rw [if_neg h1, if_neg h2, if_neg h3, if_neg h4, if_neg h5]
    · funext q
      unfold putS
      by_cases h1 : q = 61
      · subst h1; rfl
      by_cases h2 : q = 62
      · subst h2; rfl
      by_cases h3 : q = 63
      · subst h3; rfl
      by_cases h4 : q = 64
      · subst h4; rfl
      rw [if_neg h1, if_neg h2, if_neg h3, if_neg h4]
    · funext q
      unfold putR
      by_cases h1 : q = 65
      · subst h1; rfl
      by_cases h2 : 67 ≤ q ∧ q < 82
      · have h : q = 67 ∨ q = 68 ∨ q = 69 ∨ q = 70 ∨ q = 71 ∨ q = 72 ∨ q = 73 ∨ q = 74 ∨ q = 75 ∨ q = 76 ∨ q = 77 ∨ q = 78 ∨ q = 79 ∨ q = 80 ∨ q = 81 := by omega
        rcases h with rfl | rfl | rfl | rfl | rfl | rfl | rfl | rfl | rfl | rfl | rfl | rfl | rfl | rfl | rfl <;> rfl
      by_cases h3 : q = 82
      · subst h3; rfl
      by_cases h4 : q = 83
      · subst h4; rfl
      rw [if_neg h1, if_neg h2, if_neg h3, if_neg h4]
  · funext q
    by_cases h : 84 ≤ q ∧ q < 104
    · have hq : q = 84 ∨ q = 85 ∨ q = 86 ∨ q = 87 ∨ q = 88 ∨ q = 89 ∨ q = 90 ∨ q = 91 ∨ q = 92 ∨ q = 93 ∨ q = 94 ∨ q = 95 ∨ q = 96 ∨ q = 97 ∨ q = 98 ∨ q = 99 ∨ q = 100 ∨ q = 101 ∨ q = 102 ∨ q = 103 := by omega
      rcases hq with rfl | rfl | rfl | rfl | rfl | rfl | rfl | rfl | rfl | rfl | rfl | rfl | rfl | rfl | rfl | rfl | rfl | rfl | rfl | rfl <;> rfl
    · exact pMn (by omega)
def chk (G : GT) (σ : Sto) : List Nat → va_W → Prop
  | q :: qs, (a, x) :: W => a = adr G q ∧ eqC x (σ q) ∧ chk G σ qs W
  | [], [] => True
  | _, _ => False
theorem chk_at {G : GT} {σ : Sto} : ∀ (qs : List Nat) (W : va_W), chk G σ qs W → W.length = qs.length ∧ ∀ (k q : Nat), qs[k]? = some q → ∃ x, W[k]? = some (adr G q, x) ∧ eqC x (σ q)
  | [], [], _ => ⟨rfl, fun k q h => by simp at h⟩
  | [], _ :: _, h => h.elim
  | _ :: _, [], h => h.elim
  | q :: qs, (a, x) :: W, h => by
    obtain ⟨h1, h2, h3⟩ := h
    obtain ⟨i1, i2⟩ := chk_at qs W h3
    refine ⟨by simp [i1], fun k r hr => ?_⟩
    cases k with
    | zero =>
      have e : q = r := by simpa using hr
      subst e
      exact ⟨x, by rw [← h1]; rfl, h2⟩
    | succ k =>
      rw [List.getElem?_cons_succ] at hr ⊢
      exact i2 k r hr
def PLs : List Nat := [0, 1, 2, 3, 4, 5, 6, 7, 8, 9, 10, 11, 12, 13, 14, 15, 16, 17, 18, 19, 20, 21, 22, 23, 24, 25, 26, 27, 28, 29, 30, 31, 44, 45, 46, 47, 48, 49, 50, 51, 52, 53, 54, 55, 56, 57, 58, 59, 60, 61, 62, 63, 64, 65, 66, 67, 68, 69, 70, 71, 72, 73, 74, 75, 76, 77, 78, 79, 80, 81, 82, 83, 32, 33, 34, 35, 36, 37, 38, 39, 40, 41, 42, 43, 84, 85, 86, 87, 88, 89, 90, 91, 92, 93, 94, 95, 96, 97, 98, 99, 100, 101, 102, 103]
theorem PLs_pos : ∀ q, q < 104 → PLs[posW q]? = some q := by decide +kernel
/-- the loop's first state, out of the world that both constructors left -/
theorem law_first {p : Program} {e : Env} {s : State} {m : MethodId} {below : List Frame} {meth : Method} {c : Code} {l : Launch} {D : va_G} {g ad : Nat → Nat} {b L ck cs : Nat} {xs : Nat → Int32} {W : va_W} (hL : L ≤ 2048) (C0 : lw_At p s m meth c b L xs) (hK : gKK (l, D, g, ad) s) (hck : ck ≤ 600000) (hcs : cs ≤ 7302250) (hc : chk (l, D, g, ad) (st0 (l, D, g, ad)) PLs W) : LQ p e s m below meth c (l, D, g, ad) b 18 [some (.ref b), some (.ref (ad 0)), some (.ref (ad 84)), some (.int (nI 0))] [] W ck cs := by
  refine q_wide hck hcs ?_
  intro H locs ls hP hD hS hl
  obtain ⟨k1, k2⟩ := chk_at _ _ hc
  obtain ⟨hP', hD'⟩ := world_by (G := (l, D, g, ad)) (σ := st0 (l, D, g, ad)) (by rw [k1]; rfl) (fun q hq => k2 _ _ (PLs_pos q hq)) hP hD
  exact law_loop (G := (l, D, g, ad)) C0 hK hL L 0 (st0 (l, D, g, ad)) (by omega) (by omega) RR_0 H locs ls hP' hD' hS hl
