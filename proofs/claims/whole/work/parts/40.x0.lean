/-! the store of a CutDistances, places 0 .. 83 -/
abbrev XA : Type := Nat × (Nat → Int32)
abbrev XB : Type := (Nat → Int32) × (Nat → Int32)
abbrev XC : Type := Nat × Nat × (Nat → Nat) × (Nat → Nat → Int32)
abbrev XI : Type := Int32 × XA × XB
abbrev XH : Type := (Nat → Nat) × (Nat → Nat) × (Nat → Nat) × (Nat → Nat → Int32)
abbrev XT : Type := Nat × (Nat → Int32)
def xFs (G : GT) (ik : Int32) : List Value := [.ref (adr G 1), .ref (adr G 3), .ref (adr G 5), .ref (adr G 8), .ref (adr G 26), .ref (adr G 28), .int ik, .ref (adr G 31), .ref (adr G 44), .ref (adr G 46), .ref (adr G 48), .ref (adr G 61), .ref (adr G 65)]
def sWalk (G : GT) (σ : Sto) : Prop := ∃ (st : Int32) (N m : Nat) (w : WS), putW G σ st N m w = σ ∧ σ 54 = aR G 5 6 (fun k => 55 + k) ∧ (∃ M f, isT G σ 49 M f) ∧ w.2.2.1 0 = 0 ∧ ∀ j, w.2.2.2 0 j = 0
def sScr (G : GT) (σ : Sto) : Prop := (∃ w : SP, putSp G σ w = σ) ∧ sWalk G σ ∧ (∃ (P L : Nat) (w : SS), putS G σ P L w = σ) ∧ (∃ (C : Nat) (w : RS), putR G σ C w = σ ∧ σ 66 = aR G 6 15 (fun k => 67 + k))
def isX (G : GT) (σ : Sto) (A : XA) (B : XB) (C : XC) (I : XI) (H : XH) (T : XT) : Prop :=
  σ 0 = ob 9 (xFs G I.1) ∧ isT G σ 1 A.1 A.2 ∧ (∃ M f, isT G σ 3 M f) ∧ isPl G σ 5 B.1 B.2 ∧ isDe G σ C.1 C.2.1 C.2.2.1 C.2.2.2 ∧ isT G σ 26 I.2.1.1 I.2.1.2 ∧ isPl G σ 28 I.2.2.1 I.2.2.2 ∧ σ 31 = aR G 4 6 (fun h => 32 + 2 * h) ∧ (∀ h, h < 6 → isH G σ (32 + 2 * h) (H.1 h) (H.2.1 h) (H.2.2.1 h) (H.2.2.2 h)) ∧ (∃ sp, putTp G σ T.1 sp T.2 = σ) ∧ sScr G σ
def hi (σ σ' : Sto) : Prop := ∀ q, 84 ≤ q → σ' q = σ q
def xI (G : GT) (σ : Sto) (r : Int32) (A : XA) (B : XB) (C : XC) (I : XI) (H : XH) (T : XT) : Option Value → Sto → Prop := fun v σ' => v = some (.int r) ∧ isX G σ' A B C I H T ∧ hi σ σ'
def xL (G : GT) (σ : Sto) (r : Int64) (A : XA) (B : XB) (C : XC) (I : XI) (H : XH) (T : XT) : Option Value → Sto → Prop := fun v σ' => v = some (.long r) ∧ isX G σ' A B C I H T ∧ hi σ σ'
section X0
variable {G : GT} {σ σ' : Sto} {A : XA} {B : XB} {C : XC} {I : XI} {H : XH} {T : XT}
theorem isT.loc {t N : Nat} {f : Nat → Int32} (h : isT G σ t N f) (h1 : σ' t = σ t) (h2 : σ' (t + 1) = σ (t + 1)) : isT G σ' t N f := ⟨h.1, h.2.1, h1.trans h.2.2.1, h2.trans h.2.2.2.1, h.2.2.2.2⟩
theorem isPl.loc {t : Nat} {x y : Nat → Int32} (h : isPl G σ t x y) (h0 : σ' t = σ t) (h1 : σ' (t + 1) = σ (t + 1)) (h2 : σ' (t + 2) = σ (t + 2)) : isPl G σ' t x y := ⟨h.1, h0.trans h.2.1, h1.trans h.2.2.1, h2.trans h.2.2.2⟩
theorem isH.loc {t kd op S : Nat} {nu : Nat → Int32} (h : isH G σ t kd op S nu) (h1 : σ' t = σ t) (h2 : σ' (t + 1) = σ (t + 1)) : isH G σ' t kd op S nu := ⟨h.1, h1.trans h.2.1, h2.trans h.2.2.1, h.2.2.2⟩
theorem isDe.loc {fr sz : Nat} {dN : Nat → Nat} {dF : Nat → Nat → Int32} (h : isDe G σ fr sz dN dF) (h1 : ∀ q, 8 ≤ q → q < 26 → σ' q = σ q) : isDe G σ' fr sz dN dF := ⟨(h1 8 (by decide) (by decide)).trans h.1, (h1 9 (by decide) (by decide)).trans h.2.1, fun k hk => (h.2.2.1 k hk).loc (h1 _ (by omega) (by omega)) (h1 _ (by omega) (by omega)), h.2.2.2⟩
/-- a put that changed nothing there, over another store that agrees there -/
theorem putSp.loc {w : SP} (h : putSp G σ w = σ) (h1 : σ' 46 = σ 46) (h2 : σ' 47 = σ 47) : putSp G σ' w = σ' := by
  funext q
  by_cases a1 : q = 46
  · subst a1; rw [pP46, h1, ← h, pP46]
  · by_cases a2 : q = 47
    · subst a2; rw [pP47, h2, ← h, pP47]
    · exact pPn a1 a2
theorem putTp.loc {S sp : Nat} {b : Nat → Int32} (h : putTp G σ S sp b = σ) (h1 : σ' 44 = σ 44) (h2 : σ' 45 = σ 45) : putTp G σ' S sp b = σ' := by
  funext q
  by_cases a1 : q = 44
  · subst a1; rw [pT44, h1, ← h, pT44]
  · by_cases a2 : q = 45
    · subst a2; rw [pT45, h2, ← h, pT45]
    · exact pTn a1 a2
theorem putW.loc {st : Int32} {N m : Nat} {w : WS} (h : putW G σ st N m w = σ) (h1 : ∀ q, 48 ≤ q → q < 61 → σ' q = σ q) : putW G σ' st N m w = σ' := by
  funext q
  by_cases a1 : 48 ≤ q ∧ q < 61
  · rw [h1 q a1.1 a1.2]
    have h2 := congrFun h q
    have h3 := h1 q a1.1 a1.2
    unfold putW at h2 ⊢
    rw [h3]
    exact h2
  · exact pWn (by omega)
theorem putS.loc {P L : Nat} {w : SS} (h : putS G σ P L w = σ) (h1 : ∀ q, 61 ≤ q → q < 65 → σ' q = σ q) : putS G σ' P L w = σ' := by
  funext q
  by_cases a1 : 61 ≤ q ∧ q < 65
  · have h2 := congrFun h q
    have h3 := h1 q a1.1 a1.2
    rw [h3]
    unfold putS at h2 ⊢
    rw [h3]
    exact h2
  · exact pSn (by omega)
theorem putR.loc {C : Nat} {w : RS} (h : putR G σ C w = σ) (h1 : ∀ q, 65 ≤ q → q < 84 → σ' q = σ q) : putR G σ' C w = σ' := by
  funext q
  by_cases a1 : 65 ≤ q ∧ q < 84
  · have h2 := congrFun h q
    have h3 := h1 q a1.1 a1.2
    rw [h3]
    unfold putR at h2 ⊢
    rw [h3]
    exact h2
  · exact pRn (by omega)
theorem sScr.loc (h : sScr G σ) (h1 : ∀ q, 46 ≤ q → q < 84 → σ' q = σ q) : sScr G σ' := by
  obtain ⟨⟨w, hw⟩, ⟨st, N, m, w2, hw2, h54, ⟨M, f, hT⟩, hz1, hz2⟩, ⟨P, L, w3, hw3⟩, ⟨C, w4, hw4, h66⟩⟩ := h
  exact ⟨⟨w, putSp.loc hw (h1 _ (by decide) (by decide)) (h1 _ (by decide) (by decide))⟩, ⟨st, N, m, w2, putW.loc hw2 (fun q a b => h1 q (by omega) (by omega)), (h1 _ (by decide) (by decide)).trans h54, ⟨M, f, hT.loc (h1 _ (by decide) (by decide)) (h1 _ (by decide) (by decide))⟩, hz1, hz2⟩, ⟨P, L, w3, putS.loc hw3 (fun q a b => h1 q (by omega) (by omega))⟩, ⟨C, w4, putR.loc hw4 (fun q a b => h1 q (by omega) (by omega)), (h1 _ (by decide) (by decide)).trans h66⟩⟩
/-- a change of the distances' part alone -/
theorem isX.dist {A' : XA} {B' : XB} {C' : XC} (h : isX G σ A B C I H T) (h0 : σ' 0 = σ 0) (hA : isT G σ' 1 A'.1 A'.2) (hn : ∃ M f, isT G σ' 3 M f) (hB : isPl G σ' 5 B'.1 B'.2) (hC : isDe G σ' C'.1 C'.2.1 C'.2.2.1 C'.2.2.2) (h1 : ∀ q, 26 ≤ q → q < 84 → σ' q = σ q) : isX G σ' A' B' C' I H T := by
  obtain ⟨x0, x1, x3, x5, x8, x26, x28, x31, xh, ⟨sp, xt⟩, xs⟩ := h
  exact ⟨h0.trans x0, hA, hn, hB, hC, x26.loc (h1 _ (by decide) (by decide)) (h1 _ (by decide) (by decide)), x28.loc (h1 _ (by decide) (by decide)) (h1 _ (by decide) (by decide)) (h1 _ (by decide) (by decide)), (h1 _ (by decide) (by decide)).trans x31, fun k hk => (xh k hk).loc (h1 _ (by omega) (by omega)) (h1 _ (by omega) (by omega)), ⟨sp, putTp.loc xt (h1 _ (by decide) (by decide)) (h1 _ (by decide) (by decide))⟩, xs.loc (fun q a b => h1 q (by omega) b)⟩
/-- a change of what is used again alone -/
theorem isX.scr (h : isX G σ A B C I H T) (h1 : ∀ q, q < 46 → q ≠ 3 → q ≠ 4 → σ' q = σ q) (hn : ∃ M f, isT G σ' 3 M f) (hs : sScr G σ') : isX G σ' A B C I H T := by
  obtain ⟨x0, x1, x3, x5, x8, x26, x28, x31, xh, ⟨sp, xt⟩, xs⟩ := h
  exact ⟨(h1 _ (by decide) (by decide) (by decide)).trans x0, x1.loc (h1 _ (by decide) (by decide) (by decide)) (h1 _ (by decide) (by decide) (by decide)), hn, x5.loc (h1 _ (by decide) (by decide) (by decide)) (h1 _ (by decide) (by decide) (by decide)) (h1 _ (by decide) (by decide) (by decide)), x8.loc (fun q a b => h1 q (by omega) (by omega) (by omega)), x26.loc (h1 _ (by decide) (by decide) (by decide)) (h1 _ (by decide) (by decide) (by decide)), x28.loc (h1 _ (by decide) (by decide) (by decide)) (h1 _ (by decide) (by decide) (by decide)) (h1 _ (by decide) (by decide) (by decide)), (h1 _ (by decide) (by decide) (by decide)).trans x31, fun k hk => (xh k hk).loc (h1 _ (by omega) (by omega) (by omega)) (h1 _ (by omega) (by omega) (by omega)), ⟨sp, putTp.loc xt (h1 _ (by decide) (by decide) (by decide)) (h1 _ (by decide) (by decide) (by decide))⟩, hs⟩
/-- what lies above is another's -/
theorem isX.low (h : isX G σ A B C I H T) (h1 : ∀ q, q < 84 → σ' q = σ q) : isX G σ' A B C I H T :=
  h.dist (h1 _ (by decide)) (h.2.1.loc (h1 _ (by decide)) (h1 _ (by decide))) (by obtain ⟨M, f, h3⟩ := h.2.2.1; exact ⟨M, f, h3.loc (h1 _ (by decide)) (h1 _ (by decide))⟩) (h.2.2.2.1.loc (h1 _ (by decide)) (h1 _ (by decide)) (h1 _ (by decide))) (h.2.2.2.2.1.loc (fun q a b => h1 q (by omega))) (fun q a b => h1 q b)
/-- a change of one holder -/
theorem isX.hold {k kd op S : Nat} {nu : Nat → Int32} (hk : k < 6) (h : isX G σ A B C I H T) (hs : S ≤ 20) : isX G (putH G σ (32 + 2 * k) kd op S nu) A B C I (va_up H.1 k kd, va_up H.2.1 k op, va_up H.2.2.1 k S, va_up H.2.2.2 k nu) T := by
  have hh := h.2.2.2.2.2.2.2.2.1
  have h1 : ∀ q, q ≠ 32 + 2 * k → q ≠ 32 + 2 * k + 1 → putH G σ (32 + 2 * k) kd op S nu q = σ q := fun q a b => putH_n a b
  obtain ⟨x0, x1, ⟨M, f, x3⟩, x5, x8, x26, x28, x31, xh, ⟨sp, xt⟩, xs⟩ := h
  refine ⟨(h1 _ (by omega) (by omega)).trans x0, x1.loc (h1 _ (by omega) (by omega)) (h1 _ (by omega) (by omega)), ⟨M, f, x3.loc (h1 _ (by omega) (by omega)) (h1 _ (by omega) (by omega))⟩, x5.loc (h1 _ (by omega) (by omega)) (h1 _ (by omega) (by omega)) (h1 _ (by omega) (by omega)), x8.loc (fun q a b => h1 q (by omega) (by omega)), x26.loc (h1 _ (by omega) (by omega)) (h1 _ (by omega) (by omega)), x28.loc (h1 _ (by omega) (by omega)) (h1 _ (by omega) (by omega)) (h1 _ (by omega) (by omega)), (h1 _ (by omega) (by omega)).trans x31, fun j hj => ?_, ⟨sp, putTp.loc xt (h1 _ (by omega) (by omega)) (h1 _ (by omega) (by omega))⟩, xs.loc (fun q a b => h1 q (by omega) (by omega))⟩
  by_cases e : j = k
  · subst e
    dsimp only
    rw [up_s, up_s, up_s, up_s]
    exact putH_H (xh j hk) hs
  · dsimp only
    rw [up_n e, up_n e, up_n e, up_n e]
    exact (xh j hj).loc (h1 _ (by omega) (by omega)) (h1 _ (by omega) (by omega))
/-- a change of the tape -/
theorem isX.tape {S sp : Nat} {b : Nat → Int32} (h : isX G σ A B C I H T) : isX G (putTp G σ S sp b) A B C I H (S, b) := by
  have h1 : ∀ q, q ≠ 44 → q ≠ 45 → putTp G σ S sp b q = σ q := fun q a b => pTn a b
  obtain ⟨x0, x1, ⟨M, f, x3⟩, x5, x8, x26, x28, x31, xh, -, xs⟩ := h
  refine ⟨(h1 _ (by decide) (by decide)).trans x0, x1.loc (h1 _ (by decide) (by decide)) (h1 _ (by decide) (by decide)), ⟨M, f, x3.loc (h1 _ (by decide) (by decide)) (h1 _ (by decide) (by decide))⟩, x5.loc (h1 _ (by decide) (by decide)) (h1 _ (by decide) (by decide)) (h1 _ (by decide) (by decide)), x8.loc (fun q a b => h1 q (by omega) (by omega)), x26.loc (h1 _ (by decide) (by decide)) (h1 _ (by decide) (by decide)), x28.loc (h1 _ (by decide) (by decide)) (h1 _ (by decide) (by decide)) (h1 _ (by decide) (by decide)), (h1 _ (by decide) (by decide)).trans x31, fun j hj => (xh j hj).loc (h1 _ (by omega) (by omega)) (h1 _ (by omega) (by omega)), ⟨sp, ?_⟩, xs.loc (fun q a b => h1 q (by omega) (by omega))⟩
  show va_up (va_up (putTp G σ S sp b) 44 _) 45 _ = _
  rw [pT_o, pT_b]
end X0
