/-! the search: both sides -/
def FU (N : Nat) (lf f : Nat → Int32) : Prop := ∀ i j, i < j → j < N → f (6 * i + j) = lf (pI N i j)
def skF (P L n made : Nat) (w : SS) : Int32 × SS := if lAb w.1 L = 0 then (-2, w) else skI P L n made (lAb w.1 L) false w
def skC (P L mo s tr : Nat) (w : SS) : Int32 × SS := if L < s then (if ∀ p, p < P → w.2.2 p = 0 then (nI tr, w) else skF P L (mo - tr) (tr + 1) w) else skI P L (mo - tr) (tr + 1) s true w
def skT (P L mo s tr : Nat) (v : Int32) (w : SS) : Int32 × SS := if tr = mo then (-7, w) else skC P L mo (s + 1) (tr + 1) (skG P s v w)
theorem skI_step {P L mo s tr : Nat} {fr : Bool} {w : SS} (ht : tr ≤ mo) (hs : s ≤ L) : skI P L (mo - tr) (tr + 1) s fr w = skT P L mo s tr (if fr then lL P (w.2.1 s) w.2.2 else w.1 s - nI 1) w := by
  unfold skT
  by_cases h : tr = mo
  · rw [if_pos h, h, Nat.sub_self]
    rfl
  · rw [if_neg h, show mo - tr = (mo - (tr + 1)) + 1 by omega]
    conv => lhs; unfold skI
    unfold skC
    generalize skG P s (if fr = true then lL P (w.2.1 s) w.2.2 else w.1 s - nI 1) w = u
    by_cases h1 : s < L
    · rw [if_pos h1, if_neg (c := L < s + 1) (by omega)]
    · rw [if_neg h1, if_pos (c := L < s + 1) (by omega)]
      rfl
theorem lAb_at {nu : Nat → Int32} {s : Nat} (h1 : 1 ≤ s) (hn : ¬ nu s = 0) : ∀ L, s ≤ L → (∀ j, s < j → j ≤ L → nu j = 0) → lAb nu L = s := by
  intro L
  induction L with
  | zero => intro h2; omega
  | succ L ih =>
    intro h2 h3
    unfold lAb
    by_cases h4 : s = L + 1
    · subst h4
      rw [if_neg hn]
    · rw [if_pos (h3 (L + 1) (by omega) (Nat.le_refl _))]
      exact ih (by omega) (fun j a b => h3 j a (by omega))
theorem lAb_0 {nu : Nat → Int32} : ∀ L, (∀ j, 1 ≤ j → j ≤ L → nu j = 0) → lAb nu L = 0 := by
  intro L
  induction L with
  | zero => intro _; rfl
  | succ L ih =>
    intro h
    unfold lAb
    rw [if_pos (h (L + 1) (by omega) (Nat.le_refl _))]
    exact ih (fun j a b => h j a (by omega))
theorem i_ring (a b v : Int32) : a - b - (v - b) = a - v := by grind
section SUM2
variable {N mo : Nat}
theorem gN_at {P : Nat} {a m : Int32} {lf : Nat → Int32} {p : Nat} (hp : p < P) : gN P a m lf p = lf p - sepB a p * m := by
  unfold gN
  by_cases h : m = 0
  · rw [if_pos h, h, Int32.mul_zero, Int32.sub_zero]
  · rw [if_neg h]
    have := upn_at (g := fun p v => v - sepB a p * m) P 0 lf p
    rw [if_pos (by omega)] at this
    exact this
theorem FU.give {s : Nat} {lf f : Nat → Int32} {b v : Int32} (h6 : N ≤ 6) (hs : s < 32) (h : FU N lf (mLe N (nI s) b f)) : FU N (gN (pN N) (pA N (nI s)) (v - b) lf) (mLe N (nI s) v f) := by
  intro i j hij hj
  have h1 := h i j hij hj
  have hp := (pI_lt0 N (by omega) i (by omega) j hj (by omega)).1
  rw [gN_at hp, ← h1, sep_pA h6 hs hij hj, mLe_at h6 hij hj, mLe_at h6 hij hj]
  by_cases q : sepP (nI s) i j
  · rw [if_pos q, if_pos q, if_pos q, show nI 1 * (v - b) = v - b from Int32.one_mul _]
    exact (i_ring _ _ _).symm
  · rw [if_neg q, if_neg q, if_neg q, show nI 0 * (v - b) = 0 from Int32.zero_mul, Int32.sub_zero]
theorem FU.no {lf f : Nat → Int32} (h6 : N ≤ 6) (h : FU N lf f) : (∀ p, p < pN N → lf p = 0) ↔ mNo N f := by
  constructor
  · intro h1 i hi j hj hij
    rw [h i j hij hj]
    exact h1 _ (pI_lt0 N (by omega) i hi j hj (by omega)).1
  · intro h1 p hp
    obtain ⟨i, hi, j, hj, hij, rfl⟩ := pI_sur N (by omega) p hp
    rw [← h i j hij hj]
    exact h1 i hi j hj hij
theorem FU.least {s : Nat} {lf f : Nat → Int32} (h2 : 2 ≤ N) (h6 : N ≤ 6) (hs : s < 32) (h : FU N lf f) : lL (pN N) (pA N (nI s)) lf = mLl N (nI s) f := by
  unfold lL
  rw [upn_pairs h2 h6]
  refine dbl_eq (f := fun i j a => lL1 (pA N (nI s)) lf (pI N i j) a) (g := fun i j a => mLl1 (nI s) f i j a) (fun i j a h1 h3 => ?_)
  unfold lL1 mLl1
  rw [sep_pA h6 hs h1 h3, h i j h1 h3]
  by_cases q : sepP (nI s) i j
  · rw [if_pos q, if_pos rfl, if_pos q]
  · rw [if_neg q, if_neg (by decide), if_neg q]
theorem FU.zero {s : Nat} {lf f : Nat → Int32} (h6 : N ≤ 6) : FU N lf (mLe N (nI s) 0 f) ↔ FU N lf f := by
  have e : ∀ i j, i < j → j < N → mLe N (nI s) 0 f (6 * i + j) = f (6 * i + j) := by
    intro i j hij hj
    rw [mLe_at h6 hij hj]
    split <;> exact Int32.sub_zero _
  constructor
  · intro h i j hij hj
    rw [← e i j hij hj]
    exact h i j hij hj
  · intro h i j hij hj
    rw [e i j hij hj]
    exact h i j hij hj
/-- the state at cut s, before its tries -/
def Iv (N s : Nat) (nu : Nat → Int32) (w : SS) (f : Nat → Int32) : Prop := (∀ j, 1 ≤ j → j ≤ lC N → w.2.1 j = pA N (nI j)) ∧ (∀ j, s ≤ j → j ≤ lC N → w.1 j = 0) ∧ (∀ j, 1 ≤ j → j < s → nu j = w.1 j) ∧ FU N w.2.2 f
def Out (N mo s : Nat) (w : SS) (f : Nat → Int32) (r : SR) (c : Int32 × SS) : Prop := (r.1 = 2 ∧ c.1 = -7) ∨ (r.1 = 1 ∧ r.2.2 ≤ mo ∧ c.1 = nI r.2.2 ∧ ∀ j, 1 ≤ j → j ≤ lC N → c.2.1 j = r.2.1 j) ∨ (r.1 = 0 ∧ r.2.2 ≤ mo ∧ ∃ w', c = skF (pN N) (lC N) (mo - r.2.2) (r.2.2 + 1) w' ∧ Iv N s r.2.1 w' f ∧ ∀ j, j < s → w'.1 j = w.1 j)
theorem r_sk (h2 : 2 ≤ N) (h6 : N ≤ 6) : ∀ K, K ≤ lC N → ∀ f nu tr w, tr ≤ mo → lfOk N f → Iv N (lC N + 1 - K) nu w f → Out N mo (lC N + 1 - K) w f (sk N mo K f nu tr) (skC (pN N) (lC N) mo (lC N + 1 - K) tr w) := by
  have hl := lC_le h2 h6
  intro K
  induction K with
  | zero =>
    intro _ f nu tr w htr hf hI
    obtain ⟨i1, i2, i3, i4⟩ := hI
    unfold sk skC
    rw [if_pos (c := lC N < lC N + 1 - 0) (by omega)]
    by_cases hn : mNo N f
    · rw [if_pos ((FU.no h6 i4).mpr hn)]
      refine Or.inr (Or.inl ⟨(show (if mNo N f then 1 else 0) = 1 from if_pos hn), htr, rfl, fun j h1 h3 => (i3 j h1 (by omega)).symm⟩)
    · rw [if_neg (fun q => hn ((FU.no h6 i4).mp q))]
      exact Or.inr (Or.inr ⟨(show (if mNo N f then 1 else 0) = 0 from if_neg hn), htr, w, rfl, ⟨i1, i2, i3, i4⟩, fun _ _ => rfl⟩)
  | succ K ih =>
    intro hK f nu tr w htr hf hI
    obtain ⟨i1, i2, i3, i4⟩ := hI
    obtain ⟨s, hs⟩ : ∃ s, s = lC N - K := ⟨_, rfl⟩
    have es : lC N + 1 - (K + 1) = s := by omega
    have es1 : s + 1 = lC N + 1 - K := by omega
    rw [es] at i2 i3 ⊢
    have hs1 : 1 ≤ s := by omega
    have hsL : s ≤ lC N := by omega
    have sp := mLl_spec (x := nI s) hf
    have tries : ∀ v : Nat, (v : Int) ≤ (mLl N (nI s) f).toInt → ∀ (nu : Nat → Int32) (tr : Nat) (w : SS), tr ≤ mo → (∀ j, 1 ≤ j → j ≤ lC N → w.2.1 j = pA N (nI j)) → (∀ j, s < j → j ≤ lC N → w.1 j = 0) → (∀ j, 1 ≤ j → j < s → nu j = w.1 j) → FU N w.2.2 (mLe N (nI s) (w.1 s) f) → Out N mo s w f (skV N s mo (sk N mo K) f v nu tr) (skT (pN N) (lC N) mo s tr (nI v) w) := by
      -- one try
      have one : ∀ v : Nat, (v : Int) ≤ (mLl N (nI s) f).toInt → ∀ (nu : Nat → Int32) (tr : Nat) (w : SS), tr < mo → (∀ j, 1 ≤ j → j ≤ lC N → w.2.1 j = pA N (nI j)) → (∀ j, s < j → j ≤ lC N → w.1 j = 0) → (∀ j, 1 ≤ j → j < s → nu j = w.1 j) → FU N w.2.2 (mLe N (nI s) (w.1 s) f) → Out N mo (s + 1) (skG (pN N) s (nI v) w) (mLe N (nI s) (nI v) f) (sk N mo K (mLe N (nI s) (nI v) f) (upd nu s (nI v)) (tr + 1)) (skC (pN N) (lC N) mo (s + 1) (tr + 1) (skG (pN N) s (nI v) w)) := by
        intro v hv nu tr w ht a1 a2 a3 a4
        have := ih (by omega) (mLe N (nI s) (nI v) f) (upd nu s (nI v)) (tr + 1) (skG (pN N) s (nI v) w) (by omega) (mLe_ok h6 hf hv)
        rw [← es1] at this
        refine this ⟨a1, ?_, ?_, ?_⟩
        · intro j h1 h3
          show upd w.1 s (nI v) j = 0
          rw [upd_n (by omega)]
          exact a2 j (by omega) h3
        · intro j h1 h3
          show upd nu s (nI v) j = upd w.1 s (nI v) j
          by_cases e : j = s
          · rw [e, upd_s, upd_s]
          · rw [upd_n e, upd_n e]
            exact a3 j h1 (by omega)
        · show FU N (gN (pN N) (w.2.1 s) (nI v - w.1 s) w.2.2) _
          rw [a1 s hs1 hsL]
          exact a4.give h6 (by omega)
      intro v
      induction v with
      | zero =>
        intro hv nu tr w ht a1 a2 a3 a4
        unfold skV skT
        by_cases q : tr = mo
        · rw [if_pos q, if_pos q]
          exact Or.inl ⟨rfl, rfl⟩
        rw [if_neg q, if_neg q]
        rcases one 0 hv nu tr w (by omega) a1 a2 a3 a4 with h | h | ⟨h, h3, w', h4, ⟨b1, b2, b3, b4⟩, h5⟩
        · exact Or.inl h
        · exact Or.inr (Or.inl h)
        · refine Or.inr (Or.inr ⟨h, h3, w', h4, ⟨b1, ?_, fun j c1 c2 => b3 j c1 (by omega), (FU.zero h6).mp b4⟩, ?_⟩)
          · intro j c1 c2
            by_cases e : j = s
            · rw [e, h5 s (by omega)]
              show upd w.1 s (nI 0) s = 0
              rw [upd_s]
              rfl
            · exact b2 j (by omega) c2
          · intro j c1
            rw [h5 j (by omega)]
            show upd w.1 s (nI 0) j = _
            rw [upd_n (by omega)]
      | succ v ihv =>
        intro hv nu tr w ht a1 a2 a3 a4
        unfold skV skT
        by_cases q : tr = mo
        · rw [if_pos q, if_pos q]
          exact Or.inl ⟨rfl, rfl⟩
        rw [if_neg q, if_neg q]
        have o1 := one (v + 1) hv nu tr w (by omega) a1 a2 a3 a4
        generalize hr : sk N mo K (mLe N (nI s) (nI (v + 1)) f) (upd nu s (nI (v + 1))) (tr + 1) = r at *
        rcases o1 with h | h | ⟨h, h3, w', h4, ⟨b1, b2, b3, b4⟩, h5⟩
        · rw [if_neg (by omega)]
          exact Or.inl h
        · rw [if_neg (by omega)]
          exact Or.inr (Or.inl h)
        · rw [if_pos h, h4]
          have hv9 := sp.2.1
          have ews : w'.1 s = nI (v + 1) := by
            rw [h5 s (by omega)]
            exact upd_s
          have ela : lAb w'.1 (lC N) = s := lAb_at hs1 (by rw [ews]; exact nI_ne0 (by omega) (by omega)) (lC N) hsL (fun j c1 c2 => b2 j (by omega) c2)
          unfold skF
          rw [ela, if_neg (by omega), skI_step h3 hsL, if_neg (by decide), ews, show nI (v + 1) - nI 1 = nI v from pk_sub (by omega)]
          have o2 := ihv (by omega) r.2.1 r.2.2 w' h3 b1 (fun j c1 c2 => b2 j (by omega) c2) (fun j c1 c2 => b3 j c1 (by omega)) (by rw [ews]; exact b4)
          have ej : ∀ j, j < s → w'.1 j = w.1 j := by
            intro j c1
            rw [h5 j (by omega)]
            show upd w.1 s (nI (v + 1)) j = _
            rw [upd_n (by omega)]
          rcases o2 with g | g | ⟨g1, g2, w3, g3, g4, g5⟩
          · exact Or.inl g
          · exact Or.inr (Or.inl g)
          · exact Or.inr (Or.inr ⟨g1, g2, w3, g3, g4, fun j c1 => (g5 j c1).trans (ej j c1)⟩)
    unfold sk skC
    rw [if_neg (c := lC N < s) (by omega), skI_step htr hsL, if_pos rfl, i1 s hs1 hsL, i4.least h2 h6 (by omega), ← hs]
    have e0 : mLl N (nI s) f = nI (mLl N (nI s) f).toInt.toNat := by
      rw [iEq, nI_e (by omega)]
      omega
    have := tries (mLl N (nI s) f).toInt.toNat (by omega) nu tr w htr i1 (fun j c1 c2 => i2 j (by omega) c2) i3 (by rw [i2 s (Nat.le_refl _) hsL]; exact (FU.zero h6).mpr i4)
    rw [← e0] at this
    exact this
end SUM2
