/-! walls: the class's walk, one behind the other -/
def rsB (b : Nat → Int32) : Nat → Int32
  | 0 => nI 1
  | q + 1 => rsB b q - b q
def plB (N : Nat) (ft b : Nat → Int32) (j : Nat) : Nat → Int32
  | 0 => 0
  | q + 1 => plB N ft b j q + b q * dT N ft q j
def fvB (N : Nat) (ft b : Nat → Int32) : Nat → Int32
  | 0 => 0
  | q + 1 => fvB N ft b q + b q * plB N ft b q q
theorem rsB_c {b c : Nat → Int32} : ∀ q, (∀ i, i < q → b i = c i) → rsB b q = rsB c q := by
  intro q
  induction q with
  | zero => intro _; rfl
  | succ q ih => intro h; show rsB b q - b q = rsB c q - c q; rw [ih (fun i hi => h i (by omega)), h q (by omega)]
theorem plB_c {N j : Nat} {ft b c : Nat → Int32} : ∀ q, (∀ i, i < q → b i = c i) → plB N ft b j q = plB N ft c j q := by
  intro q
  induction q with
  | zero => intro _; rfl
  | succ q ih => intro h; show plB N ft b j q + b q * dT N ft q j = plB N ft c j q + c q * dT N ft q j; rw [ih (fun i hi => h i (by omega)), h q (by omega)]
theorem fvB_c {N : Nat} {ft b c : Nat → Int32} : ∀ q, (∀ i, i < q → b i = c i) → fvB N ft b q = fvB N ft c q := by
  intro q
  induction q with
  | zero => intro _; rfl
  | succ q ih => intro h; show fvB N ft b q + b q * plB N ft b q q = fvB N ft c q + c q * plB N ft c q q; rw [ih (fun i hi => h i (by omega)), h q (by omega), plB_c q (fun i hi => h i (by omega))]
/-- the walk has worked out the first p numbers of b -/
def WkP (N : Nat) (ft : Nat → Int32) (p : Nat) (w : WS) (b : Nat → Int32) : Prop := (∀ i, i < p → w.1 i = b i) ∧ ∀ q, q ≤ p → w.2.1 q = rsB b q ∧ w.2.2.1 q = fvB N ft b q ∧ ∀ j, q ≤ j → j < N → w.2.2.2 q j = plB N ft b j q
section WALKP
variable {N m p : Nat} {ft : Nat → Int32} {w : WS} {b c : Nat → Int32}
theorem WkP.congr (h : WkP N ft p w b) (e : ∀ i, i < p → b i = c i) : WkP N ft p w c := by
  refine ⟨fun i hi => (h.1 i hi).trans (e i hi), fun q hq => ?_⟩
  obtain ⟨h1, h2, h3⟩ := h.2 q hq
  refine ⟨h1.trans (rsB_c q (fun i hi => e i (by omega))), h2.trans (fvB_c q (fun i hi => e i (by omega))), fun j h4 h5 => (h3 j h4 h5).trans (plB_c q (fun i hi => e i (by omega)))⟩
theorem WkP.le {p2 : Nat} (h : WkP N ft p w b) (h2 : p2 ≤ p) : WkP N ft p2 w b := ⟨fun i hi => h.1 i (by omega), fun q hq => h.2 q (by omega)⟩
theorem WkP.car (h : WkP N ft p w b) (hp : p < N) (hb : w.1 p = b p) : WkP N ft (p + 1) (car N ft p w) b := by
  obtain ⟨h0, h⟩ := h
  refine ⟨fun i hi => ?_, fun q hq => ?_⟩
  · show w.1 i = b i
    by_cases e : i = p
    · rw [e, hb]
    · exact h0 i (by omega)
  · by_cases e : q = p + 1
    · subst e
      obtain ⟨a1, a2, a3⟩ := h p (Nat.le_refl _)
      refine ⟨?_, ?_, fun j h1 h2 => ?_⟩
      · show upd w.2.1 (p + 1) _ (p + 1) = rsB b p - b p
        rw [upd_s, a1, hb]
      · show upd w.2.2.1 (p + 1) _ (p + 1) = fvB N ft b p + b p * plB N ft b p p
        rw [upd_s, a2, hb, a3 p (Nat.le_refl _) hp]
      · show va_up w.2.2.2 (p + 1) _ (p + 1) j = plB N ft b j p + b p * dT N ft p j
        rw [up_s]
        have := upn_at (g := fun j _ => w.2.2.2 p j + w.1 p * dT N ft p j) (N - (p + 1)) (p + 1) (w.2.2.2 (p + 1)) j
        rw [if_pos (by omega)] at this
        rw [← hb, ← a3 j (by omega) h2]
        exact this
    · obtain ⟨a1, a2, a3⟩ := h q (by omega)
      refine ⟨?_, ?_, fun j h1 h2 => ?_⟩
      · show upd w.2.1 (p + 1) _ q = _
        rw [upd_n e, a1]
      · show upd w.2.2.1 (p + 1) _ q = _
        rw [upd_n e, a2]
      · show va_up w.2.2.2 (p + 1) _ q j = _
        rw [up_n e, a3 j h1 h2]
theorem WkP.set {x : Int32} (h : WkP N ft p w b) : WkP N ft p (upd w.1 p x, w.2) (upd b p x) := by
  refine ⟨fun i hi => ?_, fun q hq => ?_⟩
  · show upd w.1 p x i = upd b p x i
    rw [upd_n (by omega), upd_n (by omega)]
    exact h.1 i hi
  · exact (h.congr (fun i hi => (upd_n (by omega)).symm)).2 q hq
/-- the first numbers behind a front -/
def fcB (N m : Nat) : Nat → Nat → (Nat → Int32) → (Nat → Int32)
  | 0, _, b => b
  | n + 1, p, b => fcB N m n (p + 1) (upd b p (lA N m (rsB b p) p))
theorem WkP.fil : ∀ n p (w : WS) (b : Nat → Int32), p + n = N → WkP N ft p w b → WkP N ft N (upn n p (fil1 N m ft) w) (fcB N m n p b) := by
  intro n
  induction n with
  | zero => intro p w b hp h; rw [show p = N by omega] at h; exact h
  | succ n ih =>
    intro p w b hp h
    refine ih (p + 1) _ _ (by omega) ?_
    have e : w.2.1 p = rsB b p := (h.2 p (Nat.le_refl _)).1
    rw [← e]
    exact (WkP.set h).car (by omega) (by show upd w.1 p _ p = upd b p _ p; rw [upd_s, upd_s])
theorem fcB_c : ∀ n p (b c : Nat → Int32), (∀ i, i < p → b i = c i) → ∀ i, i < p + n → fcB N m n p b i = fcB N m n p c i := by
  intro n
  induction n with
  | zero => intro p b c h i hi; exact h i (by omega)
  | succ n ih =>
    intro p b c h i hi
    refine ih (p + 1) _ _ (fun j hj => ?_) i (by omega)
    by_cases e : j = p
    · rw [e, upd_s, upd_s, rsB_c p h]
    · rw [upd_n e, upd_n e]; exact h j (by omega)
theorem goD_skip (h : WkP N ft N w b) (hp : p < N) (hc : ¬ b p < gA N m (rsB b p) p) : goD N m ft w (p + 1) = goD N m ft w p := by
  show (if w.1 p < gA N m (w.2.1 p) p then _ else _) = _
  rw [h.1 p hp, (h.2 p (by omega)).1, if_neg hc]
theorem goD_go (h : WkP N ft N w b) (hp : p < N) (hc : b p < gA N m (rsB b p) p) : ∃ w', goD N m ft w (p + 1) = some w' ∧ WkP N ft N w' (fcB N m (N - (p + 1)) (p + 1) (upd b p (b p + nI 1))) := by
  refine ⟨fil N m ft (p + 1) (car N ft p (upd w.1 p (w.1 p + nI 1), w.2)), ?_, ?_⟩
  · show (if w.1 p < gA N m (w.2.1 p) p then _ else _) = _
    rw [h.1 p hp, (h.2 p (by omega)).1, if_pos hc]
  · rw [h.1 p hp]
    exact WkP.fil _ _ _ _ (by omega) ((WkP.set (h.le (by omega))).car hp (by show upd w.1 p _ p = upd b p _ p; rw [upd_s, upd_s]))
/-- lists in blocks -/
def blk {α : Type} (S : Nat → List α) : Nat → Nat → List α
  | 0, _ => []
  | n + 1, u => S u ++ blk S n (u + 1)
abbrev fe (m k : Nat) (r : Int32) : Prop := -((m * k : Nat) : Int) ≤ r.toInt ∧ r.toInt ≤ ((m * k : Nat) : Int)
/-- all walls behind a front -/
def wL (N m : Nat) : Nat → (Nat → Int32) → List (Nat → Int32)
  | 0, b => [b]
  | k + 1, b => blk (fun u => if fe m k (rsB (upd b (N - (k + 1)) (nI u - nI m)) (N - (k + 1) + 1)) then wL N m k (upd b (N - (k + 1)) (nI u - nI m)) else []) (2 * m + 1) 0
def lnk {α : Type} (S : α → α → Prop) : List α → (α → Prop) → Prop
  | [], _ => True
  | [a], E => E a
  | a :: b :: L, E => S a b ∧ lnk S (b :: L) E
theorem lnk.mono {α : Type} {S : α → α → Prop} : ∀ (L : List α) {E E' : α → Prop}, lnk S L E → (∀ a, a ∈ L → E a → E' a) → lnk S L E'
  | [], _, _, _, _ => trivial
  | [a], _, _, h, k => k a (List.mem_cons_self) h
  | a :: b :: L, _, _, h, k => ⟨h.1, lnk.mono (b :: L) h.2 (fun c hc => k c (List.mem_cons_of_mem _ hc))⟩
theorem lnk.app {α : Type} {S : α → α → Prop} {hd : α} {tl : List α} {E : α → Prop} (h2 : lnk S (hd :: tl) E) : ∀ (L : List α), lnk S L (fun a => S a hd) → lnk S (L ++ hd :: tl) E
  | [], _ => h2
  | [a], h => ⟨h, h2⟩
  | a :: b :: L, h => ⟨h.1, lnk.app h2 (b :: L) h.2⟩
def Sst (N m : Nat) (ft : Nat → Int32) (c c' : Nat → Int32) : Prop := ∀ w, WkP N ft N w c → ∃ w', goO N m ft w = some w' ∧ WkP N ft N w' c'
def Emx (N m p : Nat) (c : Nat → Int32) : Prop := ∀ j, p ≤ j → j + 1 < N → ¬ (c j < gA N m (rsB c j) j)
def bdd (m n : Nat) (b : Nat → Int32) : Prop := ∀ i, i < n → ∃ u, u ≤ 2 * m ∧ b i = nI u - nI m
theorem vm_t {u : Nat} (hu : u ≤ 2 * m) (hm : m ≤ 3) : (nI u - nI m).toInt = (u : Int) - m := by
  rw [Int32.toInt_sub, nI_e (by omega), nI_e (by omega), bm32 (by omega) (by omega)]
theorem rsB_bd (hm : m ≤ 3) : ∀ q, q ≤ 6 → bdd m q b → -(1 + 3 * (q : Int)) ≤ (rsB b q).toInt ∧ (rsB b q).toInt ≤ 1 + 3 * (q : Int) := by
  intro q
  induction q with
  | zero =>
    intro _ _
    have : (rsB b 0).toInt = 1 := rfl
    omega
  | succ q ih =>
    intro hq hb
    have := ih (by omega) (fun i hi => hb i (by omega))
    obtain ⟨u, hu, e⟩ := hb q (by omega)
    have e2 := vm_t hu hm
    have e3 : (rsB b (q + 1)).toInt = (rsB b q).toInt - ((u : Int) - m) := by
      show (rsB b q - b q).toInt = _
      rw [e, i_sub_toInt (by omega) (by omega), e2]
    rw [e3]
    omega
theorem rsB_t (hm : m ≤ 3) {q : Nat} (hq : q < 6) (hb : bdd m (q + 1) b) : (rsB b (q + 1)).toInt = (rsB b q).toInt - (b q).toInt := by
  have := rsB_bd hm q (by omega) (fun i hi => hb i (by omega))
  obtain ⟨u, hu, e⟩ := hb q (by omega)
  have e2 := vm_t hu hm
  show (rsB b q - b q).toInt = _
  rw [e, i_sub_toInt (by omega) (by omega)]
theorem mk15 {k : Nat} (hm : m ≤ 3) (hk : k ≤ 5) : m * k ≤ 15 := Nat.mul_le_mul hm hk
theorem lA_t {k : Nat} {r : Int32} (hm : m ≤ 3) (hk : k ≤ 5) (hp : N - 1 - p = k) (h1 : -100 ≤ r.toInt) (h2 : r.toInt ≤ 100) : (lA N m r p).toInt = if -(m : Int) < r.toInt - ((m * k : Nat) : Int) then r.toInt - ((m * k : Nat) : Int) else -(m : Int) := by
  have h15 := mk15 hm hk
  unfold lA
  rw [hp, show nI m * nI k = nI (m * k) from pk_mul _ _]
  have e1 : (r - nI (m * k)).toInt = r.toInt - ((m * k : Nat) : Int) := by
    rw [i_sub_toInt (by rw [nI_e (by omega)]; omega) (by rw [nI_e (by omega)]; omega), nI_e (by omega)]
  have e2 : (-(nI m)).toInt = -(m : Int) := by rw [Int32.toInt_neg, nI_e (by omega), bm32 (by omega) (by omega)]
  by_cases q : -(m : Int) < r.toInt - ((m * k : Nat) : Int)
  · rw [if_pos q, if_pos (by rw [iLt, e1, e2]; exact q), e1]
  · rw [if_neg q, if_neg (by rw [iLt, e1, e2]; exact q), e2]
theorem gA_t {k : Nat} {r : Int32} (hm : m ≤ 3) (hk : k ≤ 5) (hp : N - 1 - p = k) (h1 : -100 ≤ r.toInt) (h2 : r.toInt ≤ 100) : (gA N m r p).toInt = if r.toInt + ((m * k : Nat) : Int) < (m : Int) then r.toInt + ((m * k : Nat) : Int) else (m : Int) := by
  have h15 := mk15 hm hk
  unfold gA
  rw [hp, show nI m * nI k = nI (m * k) from pk_mul _ _]
  have e1 : (r + nI (m * k)).toInt = r.toInt + ((m * k : Nat) : Int) := by
    rw [i_add_toInt (by rw [nI_e (by omega)]; omega) (by rw [nI_e (by omega)]; omega), nI_e (by omega)]
  have e2 : (nI m).toInt = (m : Int) := nI_e (by omega)
  by_cases q : r.toInt + ((m * k : Nat) : Int) < (m : Int)
  · rw [if_pos q, if_pos (by rw [iLt, e1, e2]; exact q), e1]
  · rw [if_neg q, if_neg (by rw [iLt, e1, e2]; exact q), e2]
theorem goD_down {j p : Nat} (h : WkP N ft N w b) (hj : j < N) (hx : Emx N m (p + 1) b) : ∀ n, p + 1 + n = j → j < N → goD N m ft w j = goD N m ft w (p + 1) := by
  intro n
  induction n generalizing j with
  | zero => intro e _; rw [← e]
  | succ n ih =>
    intro e h2
    obtain ⟨i, rfl⟩ : ∃ i, j = i + 1 := ⟨j - 1, by omega⟩
    rw [goD_skip h (by omega) (hx i (by omega) (by omega))]
    exact ih (by omega) (by omega) (by omega)
end WALKP
