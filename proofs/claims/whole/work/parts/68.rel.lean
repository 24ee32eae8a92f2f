/-! both states -/
theorem cpy_at {n q : Nat} {f g : Nat → Int32} (h : q < n) : va_cpy f g 0 0 n q = f q := by
  show (if 0 ≤ q ∧ q < 0 + n then f (0 + (q - 0)) else g q) = f q
  rw [if_pos (by omega)]
  simp
theorem clF_at {k q : Nat} {f : Nat → Int32} (hq : q < 6) (hk : k ≤ 6) : clF k 6 f q = if k ≤ q then 0 else f q := by
  have := upn_at (g := fun _ _ => nI 0) (6 - k) k f q
  unfold clF
  rw [this]
  by_cases h : k ≤ q
  · rw [if_pos h, if_pos (by omega)]
    rfl
  · rw [if_neg h, if_neg (by omega)]
def PLR (N : Nat) (B : XB) (xs ys : Nat → Int32) : Prop := ∀ p, p < 6 → B.1 p = xs p ∧ B.2 p = ys p ∧ (N ≤ p → xs p = 0 ∧ ys p = 0) ∧ (∃ u, u ≤ 99 ∧ xs p = nI u) ∧ ∃ u, u ≤ 99 ∧ ys p = nI u
theorem PLR.congr {N : Nat} {B B2 : XB} {xs ys xs2 ys2 : Nat → Int32} (h : PLR N B xs ys) (e1 : ∀ p, p < 6 → B2.1 p = B.1 p) (e2 : ∀ p, p < 6 → B2.2 p = B.2 p) (e3 : ∀ p, p < 6 → xs2 p = xs p) (e4 : ∀ p, p < 6 → ys2 p = ys p) : PLR N B2 xs2 ys2 := by
  intro p hp
  rw [e1 p hp, e2 p hp, e3 p hp, e4 p hp]
  exact h p hp
theorem PLR.clear {N M : Nat} {B : XB} {xs ys : Nat → Int32} (h : PLR N B xs ys) (hM : M ≤ 6) : PLR M (clF M 6 B.1, clF M 6 B.2) (clF M 6 xs) (clF M 6 ys) := by
  intro p hp
  obtain ⟨h1, h2, h3, h4, h5⟩ := h p hp
  dsimp only
  rw [clF_at hp hM, clF_at hp hM, clF_at hp hM, clF_at hp hM]
  by_cases e : M ≤ p
  · rw [if_pos e, if_pos e, if_pos e, if_pos e]
    exact ⟨rfl, rfl, fun _ => ⟨rfl, rfl⟩, ⟨0, by omega, rfl⟩, ⟨0, by omega, rfl⟩⟩
  · rw [if_neg e, if_neg e, if_neg e, if_neg e]
    exact ⟨h1, h2, fun q => absurd q e, h4, h5⟩
def IMR (I : XI) (z : Nat → Int32) (a : Nat → Nat → Int32) : Prop := (I.1 = 0 ∧ z 12 = 0) ∨ (I.1 = 1 ∧ z 12 = 1 ∧ DK I.2.1.1 I.2.1.2 (z 13) (a 94) ∧ PLR I.2.1.1 I.2.2 (a 95) (a 96))
def HOR (H : XH) (sz : Nat → Nat) (a : Nat → Nat → Int32) : Prop := hoOk H.1 sz a ∧ ∀ h, h < 6 → (H.1 h = 1 → H.2.1 h = sz h ∧ H.2.2.1 h = pN (sz h)) ∧ (H.1 h = 2 → H.2.1 h = sz h ∧ H.2.2.1 h = sz h ∧ isW (sz h) (H.2.2.2 h)) ∧ (H.1 h = 3 → H.2.2.1 h = sz h) ∧ (¬ H.1 h = 0 → ∀ k, k < H.2.2.1 h → H.2.2.2 h k = a 93 (20 * h + k))
def Rel (A : XA) (B : XB) (C : XC) (I : XI) (H : XH) (T : XT) (D : Nat) (z : Nat → Int32) (a : Nat → Nat → Int32) : Prop := DK A.1 A.2 (nI A.1) (a 85) ∧ PLR A.1 B (a 86) (a 87) ∧ DR C D (a 88) (a 89) ∧ IMR I z a ∧ (∃ sz, HOR H sz a) ∧ T.1 ≤ 80 ∧ ∀ k, k < T.1 → T.2 k = a 90 k
def RR (G : GT) (σ : Sto) : Prop := ∃ A B C I H T D z a tb, isX G σ A B C I H T ∧ putM G σ A.1 D T.1 z a tb = σ ∧ Rel A B C I H T D z a
section REL
variable {G : GT} {σ σ' : Sto} {A : XA} {B : XB} {C : XC} {I : XI} {H : XH} {T : XT} {D : Nat} {z z' : Nat → Int32} {a a' : Nat → Nat → Int32} {tb : Nat → Int64}
theorem IMR.congr (h : IMR I z a) (ha : ∀ q, 94 ≤ q → q < 97 → a' q = a q) (h1 : z' 12 = z 12) (h2 : z' 13 = z 13) : IMR I z' a' := by
  unfold IMR
  rw [h1, h2, ha 94 (by decide) (by decide), ha 95 (by decide) (by decide), ha 96 (by decide) (by decide)]
  exact h
theorem HOR.congr {sz : Nat → Nat} (h : HOR H sz a) (ha : ∀ q, 91 ≤ q → q < 94 → a' q = a q) : HOR H sz a' := by
  unfold HOR hoOk
  rw [ha 91 (by decide) (by decide), ha 92 (by decide) (by decide), ha 93 (by decide) (by decide)]
  exact h
/-- what the answers don't rest on may change -/
theorem Rel.free (h : Rel A B C I H T D z a) (ha : ∀ q, 85 ≤ q → q < 97 → a' q = a q) (h1 : z' 12 = z 12) (h2 : z' 13 = z 13) : Rel A B C I H T D z' a' := by
  obtain ⟨r1, r2, r3, r4, ⟨sz, r5⟩, r6, r7⟩ := h
  refine ⟨?_, ?_, ?_, r4.congr (fun q x y => ha q (by omega) (by omega)) h1 h2, ⟨sz, r5.congr (fun q x y => ha q (by omega) (by omega))⟩, r6, ?_⟩
  · rw [ha 85 (by decide) (by decide)]; exact r1
  · rw [ha 86 (by decide) (by decide), ha 87 (by decide) (by decide)]; exact r2
  · rw [ha 88 (by decide) (by decide), ha 89 (by decide) (by decide)]; exact r3
  · rw [ha 90 (by decide) (by decide)]; exact r7
theorem putM.loc {N T : Nat} (h : putM G σ N D T z a tb = σ) (h1 : hi σ σ') : putM G σ' N D T z a tb = σ' := by
  funext q
  by_cases a1 : 84 ≤ q ∧ q < 104
  · have h2 := congrFun h q
    rw [h1 q a1.1]
    rw [← h2]
    unfold putM
    by_cases e1 : q = 84
    · rw [if_pos e1, if_pos e1]
    · rw [if_neg e1, if_neg e1]
      by_cases e2 : q = 99
      · rw [if_pos e2, if_pos e2]
      · rw [if_neg e2, if_neg e2, if_pos (by omega), if_pos (by omega)]
  · exact pMn (by omega)
theorem putM_putM {N D2 T N2 T2 : Nat} {z2 : Nat → Int32} {a2 : Nat → Nat → Int32} {tb2 : Nat → Int64} : putM G (putM G σ N D T z a tb) N2 D2 T2 z2 a2 tb2 = putM G σ N2 D2 T2 z2 a2 tb2 := by
  funext q
  by_cases a1 : 84 ≤ q ∧ q < 104
  · by_cases e1 : q = 84
    · subst e1; rfl
    · by_cases e2 : q = 99
      · subst e2; rfl
      · have e3 : 85 ≤ q ∧ q < 104 := by omega
        unfold putM
        simp only [e1, e2, e3, if_true, if_false, and_self]
  · rw [pMn (by omega), pMn (by omega), pMn (by omega)]
theorem RR.mk {N D T' : Nat} (hX : isX G σ A B C I H T) (hN : A.1 = N) (hT : T.1 = T') (hR : Rel A B C I H T D z a) : RR G (putM G σ N D T' z a tb) := by
  subst hN hT
  refine ⟨A, B, C, I, H, T, D, z, a, tb, hX.low (fun q h => pMn (by omega)), putM_putM, hR⟩
end REL
/-- a method of both: the same answer, and both states again -/
def PrQ (G : GT) (ν : MI) (e : Nat) (as : List Value) (r : Value) (σ1 : Sto) : Prop := (∃ fs, σ1 84 = ob 10 fs) ∧ ConP G ν e (.ref (adr G 84) :: as) σ1 (fun v' σ2 => v' = some r ∧ RR G σ2)
def PrI (G : GT) (μ ν : MI) (d e : Nat) (as : List Value) : Prop := ∀ σ, RR G σ → ConP G μ d (.ref (adr G 0) :: as) σ (fun v σ1 => ∃ r, v = some (.int r) ∧ PrQ G ν e as (.int r) σ1)
def PrL (G : GT) (μ ν : MI) (d e : Nat) (as : List Value) : Prop := ∀ σ, RR G σ → ConP G μ d (.ref (adr G 0) :: as) σ (fun v σ1 => ∃ r, v = some (.long r) ∧ PrQ G ν e as (.long r) σ1)
section PAIR
variable {G : GT} {σ σ1 σ2 : Sto} {A A' : XA} {B B' : XB} {C C' : XC} {I I' : XI} {H H' : XH} {T T' : XT} {D : Nat} {z z' : Nat → Int32} {a a' : Nat → Nat → Int32} {tb : Nat → Int64} {ν : MI} {e : Nat} {as : List Value}
theorem step2 {v : Value} {N Tm : Nat} (hh : hi σ σ1) (hM : putM G σ N D Tm z a tb = σ) (k : ConP G ν e (.ref (adr G 84) :: as) (putM G σ1 N D Tm z a tb) (fun v' σ2 => v' = some v ∧ RR G σ2)) : PrQ G ν e as v σ1 := by
  have h := putM.loc hM hh
  refine ⟨⟨mFs G N D Tm z, ?_⟩, ?_⟩
  · rw [← h]; rfl
  · rw [h] at k; exact k
theorem stI {r : Int32} {N Tm : Nat} (hh : hi σ σ1) (hM : putM G σ N D Tm z a tb = σ) (k : ConP G ν e (.ref (adr G 84) :: as) (putM G σ1 N D Tm z a tb) (fun v' σ2 => v' = some (.int r) ∧ RR G σ2)) : ∃ r', some (Value.int r) = some (.int r') ∧ PrQ G ν e as (.int r') σ1 := ⟨r, rfl, step2 hh hM k⟩
theorem stL {r : Int64} {N Tm : Nat} (hh : hi σ σ1) (hM : putM G σ N D Tm z a tb = σ) (k : ConP G ν e (.ref (adr G 84) :: as) (putM G σ1 N D Tm z a tb) (fun v' σ2 => v' = some (.long r) ∧ RR G σ2)) : ∃ r', some (Value.long r) = some (.long r') ∧ PrQ G ν e as (.long r') σ1 := ⟨r, rfl, step2 hh hM k⟩
/-- the end of a pair -/
theorem fiI {r r' : Int32} {v' : Option Value} {N2 D2 T2 : Nat} {z2 : Nat → Int32} {a2 : Nat → Nat → Int32} {tb2 : Nat → Int64} (h : rI r' (putM G σ1 N2 D2 T2 z2 a2 tb2) v' σ2) (hX : isX G σ1 A' B' C' I' H' T') (er : r' = r) (hN : A'.1 = N2) (hT : T'.1 = T2) (hR : Rel A' B' C' I' H' T' D2 z2 a2) : v' = some (.int r) ∧ RR G σ2 := by
  obtain ⟨rfl, rfl⟩ := h
  subst er
  exact ⟨rfl, RR.mk hX hN hT hR⟩
theorem fiL {r r' : Int64} {v' : Option Value} {N2 D2 T2 : Nat} {z2 : Nat → Int32} {a2 : Nat → Nat → Int32} {tb2 : Nat → Int64} (h : rL r' (putM G σ1 N2 D2 T2 z2 a2 tb2) v' σ2) (hX : isX G σ1 A' B' C' I' H' T') (er : r' = r) (hN : A'.1 = N2) (hT : T'.1 = T2) (hR : Rel A' B' C' I' H' T' D2 z2 a2) : v' = some (.long r) ∧ RR G σ2 := by
  obtain ⟨rfl, rfl⟩ := h
  subst er
  exact ⟨rfl, RR.mk hX hN hT hR⟩
end PAIR
/-! deeds -/
theorem unl_val {N : Nat} {far far2 : Nat → Int32} (h6 : N ≤ 6) : ∃ c, c ≤ 15 ∧ unl N far far2 = nI c ∧ (c = 0 → ∀ p, p < pN N → far p = far2 p) := by
  have key := upn_inv (f := fun p a => a + (if far p = far2 p then nI 0 else nI 1)) (fun p (a : Int32) => ∃ c, c ≤ p ∧ a = nI c ∧ (c = 0 → ∀ q, q < p → far q = far2 q)) (pN N) 0 (nI 0) ?_ ⟨0, Nat.le_refl _, rfl, fun _ q hq => absurd hq (Nat.not_lt_zero _)⟩
  · obtain ⟨c, h1, h2, h3⟩ := key
    have := pN_le h6
    exact ⟨c, by omega, h2, fun h p hp => h3 h p (by omega)⟩
  · intro p a _ _ ⟨c, h1, h2, h3⟩
    by_cases e : far p = far2 p
    · rw [if_pos e]
      refine ⟨c, by omega, by rw [h2, nI_add]; rfl, fun h q hq => ?_⟩
      by_cases e2 : q = p
      · rw [e2]; exact e
      · exact h3 h q (by omega)
    · rw [if_neg e]
      exact ⟨c + 1, by omega, by rw [h2, nI_add], fun h => by omega⟩
section DEED
variable {A : XA} {B : XB} {C : XC} {I : XI} {H : XH} {T : XT} {D : Nat} {z z1 z' : Nat → Int32} {a a1 : Nat → Nat → Int32}
theorem Rel.deed {M : Nat} {f : Nat → Int32} (h : Rel A B C I H T D z a) (hM : 2 ≤ M) (hM6 : M ≤ 6) (hf : inB M f) (hF : FR M f (a1 85)) (hz : z1 18 = nI A.1) (hw : FR A.1 A.2 (a1 97)) (hP : ∀ p, p < 6 → a1 86 p = (if M ≤ p then 0 else a 86 p) ∧ a1 87 p = if M ≤ p then 0 else a 87 p) (ha : ∀ q, 88 ≤ q → q < 97 → a1 q = a q) (h1 : z' 12 = z 12) (h2 : z' 13 = z 13) : Rel (xDA A M f) (xDB A B M f) (xDC A C M f) I H T (mDo M D z1 a1).1 z' (mDo M D z1 a1).2 ∧ (A.1 = M → xO A M f = mCh M (a1 85) (a1 97)) ∧ (mDo M D z1 a1).2 85 = a1 85 ∧ (xDA A M f).1 = M := by
  obtain ⟨r1, r2, r3, r4, ⟨sz, r5⟩, r6, r7⟩ := h
  obtain ⟨k1, k2, k3, k4, k5⟩ := r1
  have eO : A.1 = M → unl A.1 A.2 f = mCh M (a1 85) (a1 97) := by
    intro e
    rw [e] at k4 hw ⊢
    exact r_unl hM hM6 hw hF
  have cl : PLR M (clF M 6 B.1, clF M 6 B.2) (a1 86) (a1 87) := by
    refine (r2.clear hM6).congr (fun _ _ => rfl) (fun _ _ => rfl) (fun p hp => ?_) (fun p hp => ?_)
    · rw [(hP p hp).1, clF_at hp hM6]
    · rw [(hP p hp).2, clF_at hp hM6]
  have old : DK A.1 A.2 (nI A.1) (a1 97) := ⟨k1, k2, rfl, k4, hw⟩
  have new : DK M (va_cpy f A.2 0 0 15) (nI M) (a1 85) := ⟨hM, hM6, rfl, hf.cpy hM6, hF.cpy hM6⟩
  by_cases hc : xCh A M f
  · have hm : ¬ (mCh M (a1 85) (a1 97) = 0 ∧ nI M = z1 18) := by
      intro ⟨q1, q2⟩
      rw [hz] at q2
      have e : A.1 = M := by
        rw [iEq, nI_e (by omega), nI_e (by omega)] at q2
        omega
      rcases hc with hc | hc
      · exact hc e
      · rw [eO e, q1] at hc
        exact absurd hc (by decide)
    have e85 : (mDo M D z1 a1).2 85 = a1 85 := by
      unfold mDo
      rw [if_neg hm]
      dsimp only
      rw [up_n (by decide), up_n (by decide)]
    refine ⟨⟨?_, ?_, ?_, ?_, ⟨sz, ?_⟩, r6, ?_⟩, ?_, e85, ?_⟩
    · rw [e85]
      unfold xDA
      rw [if_pos hc]
      exact new
    · unfold xDA xDB mDo
      rw [if_pos hc, if_pos hc, if_neg hm]
      dsimp only
      rw [up_n (by decide), up_n (by decide), up_n (by decide), up_n (by decide)]
      exact cl
    · unfold xDC mDo
      rw [if_pos hc, if_neg hm]
      dsimp only
      rw [up_n (by decide), up_s, up_s, hz, ha 88 (by decide) (by decide), ha 89 (by decide) (by decide)]
      exact r3.keep old
    · refine r4.congr (fun q x y => ?_) h1 h2
      unfold mDo
      rw [if_neg hm]
      dsimp only
      rw [up_n (by omega), up_n (by omega), ha q (by omega) (by omega)]
    · refine r5.congr (fun q x y => ?_)
      unfold mDo
      rw [if_neg hm]
      dsimp only
      rw [up_n (by omega), up_n (by omega), ha q (by omega) (by omega)]
    · unfold mDo
      rw [if_neg hm]
      dsimp only
      rw [up_n (by omega), up_n (by omega), ha 90 (by omega) (by omega)]
      exact r7
    · intro e
      unfold xO
      rw [if_pos e, eO e]
    · unfold xDA
      rw [if_pos hc]
  · have e : A.1 = M := Classical.not_not.mp (fun q => hc (Or.inl q))
    obtain ⟨c, c1, c2, c3⟩ := unl_val (N := A.1) (far := A.2) (far2 := f) k2
    have c0 : c = 0 := by
      by_cases q : c = 0
      · exact q
      · exact absurd (Or.inr (by rw [c2]; exact nI_lt (by omega) (by omega))) hc
    have hm : mCh M (a1 85) (a1 97) = 0 ∧ nI M = z1 18 := ⟨by rw [← eO e, c2, c0]; rfl, by rw [hz, e]⟩
    have ed : mDo M D z1 a1 = (D, a1) := if_pos hm
    have ex : xDA A M f = A := if_neg hc
    have eb : xDB A B M f = B := if_neg hc
    have ec : xDC A C M f = C := if_neg hc
    rw [ed, ex, eb, ec]
    dsimp only
    refine ⟨⟨⟨k1, k2, rfl, k4, ?_⟩, ?_, ?_, r4.congr (fun q x y => ha q (by omega) (by omega)) h1 h2, ⟨sz, r5.congr (fun q x y => ha q (by omega) (by omega))⟩, r6, ?_⟩, ?_, rfl, e⟩
    · intro i hi j hj
      rw [hF i (by omega) j (by omega), ← e]
      by_cases e2 : i = j
      · rw [e2, dT_self, dT_self]
      · rw [dT_lt hi hj e2, dT_lt hi hj e2, c3 c0 _ (pI_lt0 A.1 (by omega) i hi j hj e2).1]
    · refine r2.congr (fun _ _ => rfl) (fun _ _ => rfl) (fun p hp => ?_) (fun p hp => ?_)
      · rw [(hP p hp).1]
        by_cases e2 : M ≤ p
        · rw [if_pos e2, ((r2 p hp).2.2.1 (by omega)).1]
        · rw [if_neg e2]
      · rw [(hP p hp).2]
        by_cases e2 : M ≤ p
        · rw [if_pos e2, ((r2 p hp).2.2.1 (by omega)).2]
        · rw [if_neg e2]
    · rw [ha 88 (by decide) (by decide), ha 89 (by decide) (by decide)]
      exact r3
    · rw [ha 90 (by decide) (by decide)]
      exact r7
    · intro _
      unfold xO
      rw [if_pos e, eO e]
/-- a deed that leaves N -/
theorem Rel.mDe {f f2 : Nat → Int32} (h : Rel A B C I H T D z a) (hf : inB A.1 f) (hF : FR A.1 f f2) : Rel (xDA A A.1 f) (xDB A B A.1 f) (xDC A C A.1 f) I H T (mDe A.1 D z a f2).1 (va_up z 18 (nI A.1)) (mDe A.1 D z a f2).2 ∧ xO A A.1 f = mCh A.1 f2 (mAh a 97) ∧ (mDe A.1 D z a f2).2 85 = f2 ∧ (xDA A A.1 f).1 = A.1 := by
  have e1 : (va_up (mAh a) 85 f2) 85 = f2 := up_s
  have e2 : (va_up (mAh a) 85 f2) 97 = mAh a 97 := up_n (by decide)
  have e3 : ∀ q, q ≠ 85 → q ≠ 97 → (va_up (mAh a) 85 f2) q = a q := fun q x y => (up_n x).trans (up_n y)
  have e4 : mAh a 97 = cpA 36 (a 85) (a 97) := up_s
  obtain ⟨k1, k2, k3, k4, k5⟩ := h.1
  have := h.deed (M := A.1) (a1 := va_up (mAh a) 85 f2) (z1 := va_up z 18 (nI A.1)) (z' := va_up z 18 (nI A.1)) (f := f) k1 k2 hf (by rw [e1]; exact hF) up_s (by rw [e2, e4]; exact k5.congr k2 (fun t ht => cpA_at ht)) (fun p hp => by
    rw [e3 86 (by decide) (by decide), e3 87 (by decide) (by decide)]
    have := (h.2.1 p hp).2.2.1
    by_cases q : A.1 ≤ p
    · rw [if_pos q, if_pos q]; exact this q
    · rw [if_neg q, if_neg q]; exact ⟨rfl, rfl⟩) (fun q x y => e3 q (by omega) (by omega)) (up_n (by decide)) (up_n (by decide))
  rw [e1, e2] at this
  exact ⟨this.1, this.2.1 rfl, this.2.2.1, this.2.2.2⟩
end DEED
