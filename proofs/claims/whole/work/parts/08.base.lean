/-! loops as folds -/
def upn {α : Type} : Nat → Nat → (Nat → α → α) → α → α
  | 0, _, _, a => a
  | n + 1, k, f, a => upn n (k + 1) f (f k a)
theorem loopU {α : Type} (X : Nat → α → Prop) (f : Nat → α → α) (e k0 n : Nat) (a0 : α) (he : k0 + n = e) (step : ∀ k a, k0 ≤ k → k < e → X (k + 1) (f k a) → X k a) (fin : X e (upn n k0 f a0)) : X k0 a0 := by
  induction n generalizing k0 a0 with
  | zero =>
    have : k0 = e := by omega
    subst this
    exact fin
  | succ n ih => exact step k0 a0 (Nat.le_refl _) (by omega) (ih (k0 + 1) (f k0 a0) (by omega) (fun k a h => step k a (by omega)) fin)
/-- a loop that may end early: at each k either the body's end is reached, or it goes on -/
theorem loopE {α : Type} (X : Nat → α → Prop) (f : Nat → α → α) (c : Nat → α → Bool) (e : Nat) (step : ∀ k a, k < e → c k a = false → X (k + 1) (f k a) → X k a) (brk : ∀ k a, k < e → c k a = true → X k a) (fin : ∀ a, X e a) : ∀ n k a, k + n = e → X k a := by
  intro n
  induction n with
  | zero =>
    intro k a h
    have : k = e := by omega
    subst this
    exact fin a
  | succ n ih =>
    intro k a h
    cases hc : c k a with
    | true => exact brk k a (by omega) hc
    | false => exact step k a (by omega) hc (ih (k + 1) (f k a) (by omega))
theorem upn_congr {α : Type} {f g : Nat → α → α} : ∀ n k a, (∀ j b, k ≤ j → j < k + n → f j b = g j b) → upn n k f a = upn n k g a := by
  intro n
  induction n with
  | zero => intros; rfl
  | succ n ih =>
    intro k a h
    show upn n (k + 1) f (f k a) = upn n (k + 1) g (g k a)
    rw [h k a (Nat.le_refl k) (by omega)]
    exact ih (k + 1) _ (fun j b h1 h2 => h j b (by omega) (by omega))
theorem upn_inv {α : Type} {f : Nat → α → α} (I : Nat → α → Prop) : ∀ n k a, (∀ j b, k ≤ j → j < k + n → I j b → I (j + 1) (f j b)) → I k a → I (k + n) (upn n k f a) := by
  intro n
  induction n with
  | zero => intro k a _ h; exact h
  | succ n ih =>
    intro k a hs h
    have := ih (k + 1) (f k a) (fun j b h1 h2 => hs j b (by omega) (by omega)) (hs k a (Nat.le_refl k) (by omega) h)
    rw [show k + (n + 1) = k + 1 + n by omega]
    exact this
theorem upn_last {α : Type} {f : Nat → α → α} : ∀ n k a, upn (n + 1) k f a = f (k + n) (upn n k f a) := by
  intro n
  induction n with
  | zero => intro k a; rfl
  | succ n ih =>
    intro k a
    show upn (n + 1) (k + 1) f (f k a) = _
    rw [ih (k + 1) (f k a), show k + 1 + n = k + (n + 1) by omega]
    rfl
/-- truth as a number -/
def bI (c : Prop) [Decidable c] : Int32 := if c then 1 else 0
theorem bI_t {c : Prop} [Decidable c] (h : c) : bI c = 1 := if_pos h
theorem bI_f {c : Prop} [Decidable c] (h : ¬ c) : bI c = 0 := if_neg h
theorem bI_01 {c : Prop} [Decidable c] : bI c = 0 ∨ bI c = 1 := by unfold bI; split <;> simp
theorem bI_ne {c : Prop} [Decidable c] : ¬ bI c = 0 ↔ c := by unfold bI; split <;> simp_all
theorem bI_eq {c : Prop} [Decidable c] : bI c = 0 ↔ ¬ c := by unfold bI; split <;> simp_all
theorem iLt {x y : Int32} : x < y ↔ x.toInt < y.toInt := Int32.lt_iff_toInt_lt
theorem iLe {x y : Int32} : x ≤ y ↔ x.toInt ≤ y.toInt := Int32.le_iff_toInt_le
theorem iEq {x y : Int32} : x = y ↔ x.toInt = y.toInt := Int32.toInt_inj.symm
theorem i0 : (0 : Int32).toInt = 0 := rfl
theorem im1 : (-1 : Int32).toInt = -1 := rfl
/-- an int in a range of naturals is one -/
theorem nI_in0 {x : Int32} {n : Nat} (h0 : 0 ≤ x.toInt) (h1 : x.toInt < n) (hn : n < 2 ^ 31) : ∃ j, j < n ∧ x = nI j := by
  refine ⟨x.toInt.toNat, by omega, ?_⟩
  rw [iEq, nI_toInt (by omega)]
  omega
theorem nI_e {n : Nat} (h : n < 2 ^ 31) : (nI n).toInt = n := nI_toInt h
