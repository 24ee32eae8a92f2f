/-! rows of numbers, one behind the other -/
def sfx (b : Nat → Int32) (p N : Nat) (v : Int32) : Nat → Int32 := fun i => if p ≤ i ∧ i < N then v else b i
/-- the next row, from the place k - 1 downwards -/
def goM (m : Nat) : Nat → (Nat → Int32) → Bool × (Nat → Int32)
  | 0, b => (false, b)
  | k + 1, b => if b k = nI m then goM m k (upd b k (-(nI m))) else (true, upd b k (b k + nI 1))
def fldA {α : Type} (f : (Nat → Int32) → α → α) (N m : Nat) : Nat → (Nat → Int32) → α → α
  | 0, b, a => f b a
  | k + 1, b, a => upn (2 * m + 1) 0 (fun v a => fldA f N m k (upd b (N - (k + 1)) (nI v - nI m)) a) a
theorem upd_s {f : Nat → Int32} {k : Nat} {x : Int32} : upd f k x k = x := pk_us
theorem upd_n {f : Nat → Int32} {k j : Nat} {x : Int32} (h : j ≠ k) : upd f k x j = f j := pk_un h
theorem goM_run (m p : Nat) (b : Nat → Int32) (hb : ¬ b p = nI m) : ∀ j, goM m (p + 1 + j) (sfx b (p + 1) (p + 1 + j) (nI m)) = (true, upd (sfx b (p + 1) (p + 1 + j) (-(nI m))) p (b p + nI 1)) := by
  have gen : ∀ j (c : Nat → Int32), (∀ i, p < i → i < p + 1 + j → c i = nI m) → c p = b p → goM m (p + 1 + j) c = (true, upd (sfx c (p + 1) (p + 1 + j) (-(nI m))) p (b p + nI 1)) := by
    intro j
    induction j with
    | zero =>
      intro c _ hp
      show (if c p = nI m then goM m p (upd c p (-(nI m))) else (true, upd c p (c p + nI 1))) = _
      rw [if_neg (by rw [hp]; exact hb), hp]
      congr 1
      have e : sfx c (p + 1) (p + 1 + 0) (-(nI m)) = c := by
        funext i
        unfold sfx
        rw [if_neg (by omega)]
      rw [e]
    | succ j ih =>
      intro c hc hp
      show (if c (p + 1 + j) = nI m then goM m (p + 1 + j) (upd c (p + 1 + j) (-(nI m))) else (true, upd c (p + 1 + j) (c (p + 1 + j) + nI 1))) = _
      rw [if_pos (hc _ (by omega) (by omega)), ih _ (fun i h1 h2 => by rw [upd_n (by omega)]; exact hc i h1 (by omega)) (by rw [upd_n (by omega)]; exact hp)]
      congr 2
      funext i
      unfold sfx
      by_cases h1 : i = p + 1 + j
      · subst h1
        rw [if_neg (by omega), if_pos (by omega), upd_s]
      · rw [upd_n h1]
        by_cases h2 : p + 1 ≤ i ∧ i < p + 1 + j
        · rw [if_pos h2, if_pos (by omega)]
        · rw [if_neg h2, if_neg (by omega)]
  intro j
  have h := gen j (sfx b (p + 1) (p + 1 + j) (nI m)) (fun i h1 h2 => by unfold sfx; rw [if_pos (by omega)]) (by unfold sfx; rw [if_neg (by omega)])
  rw [h]
  congr 2
  funext i
  unfold sfx
  by_cases h2 : p + 1 ≤ i ∧ i < p + 1 + j
  · rw [if_pos h2, if_pos h2]
  · rw [if_neg h2, if_neg h2, if_neg h2]
theorem goM_end (m : Nat) : ∀ n (b : Nat → Int32), (∀ i, i < n → b i = nI m) → goM m n b = (false, sfx b 0 n (-(nI m))) := by
  intro n
  induction n with
  | zero =>
    intro b _
    show (false, b) = _
    refine congrArg (Prod.mk false) ?_
    funext i
    unfold sfx
    rw [if_neg (by omega)]
  | succ n ih =>
    intro b hb
    show (if b n = nI m then goM m n (upd b n (-(nI m))) else (true, upd b n (b n + nI 1))) = _
    rw [if_pos (hb n (by omega)), ih _ (fun i h => by rw [upd_n (by omega)]; exact hb i (by omega))]
    congr 1
    funext i
    unfold sfx
    by_cases h1 : i = n
    · subst h1
      rw [if_neg (by omega), if_pos (by omega), upd_s]
    · rw [upd_n h1]
      by_cases h2 : 0 ≤ i ∧ i < n
      · rw [if_pos h2, if_pos (by omega)]
      · rw [if_neg h2, if_neg (by omega)]
theorem vm_ne {v m : Nat} (hm : m ≤ 3) (h : v < 2 * m) : ¬ nI v - nI m = nI m := by
  have : ∀ m, m < 4 → ∀ v, v < 2 * m → ¬ nI v - nI m = nI m := by decide +kernel
  exact this m (by omega) v h
theorem vm_0 (m : Nat) : nI 0 - nI m = -(nI m) := by rw [show nI 0 = 0 from rfl]; exact Int32.zero_sub _
theorem vm_e {m : Nat} (hm : m ≤ 3) : nI (2 * m) - nI m = nI m := by
  have : ∀ m, m < 4 → nI (2 * m) - nI m = nI m := by decide +kernel
  exact this m (by omega)
theorem vm_s (v m : Nat) : nI v - nI m + nI 1 = nI (v + 1) - nI m := by
  rw [nI_succ v, show nI 1 = 1 from rfl]
  rw [Int32.sub_eq_add_neg, Int32.sub_eq_add_neg, Int32.add_assoc, Int32.add_comm (-(nI m)) 1, ← Int32.add_assoc]
/-- all rows are gone through: Xb ahead of a row's look, Xa behind it -/
theorem odo {α : Type} {N m : Nat} (hm : m ≤ 3) (Xb Xa : (Nat → Int32) → α → Prop) (f : (Nat → Int32) → α → α) (hv : ∀ b a, Xa b (f b a) → Xb b a) (hg : ∀ b b' a, goM m N b = (true, b') → Xb b' a → Xa b a) :
    ∀ k, k ≤ N → ∀ b a, Xa (sfx b (N - k) N (nI m)) (fldA f N m k b a) → Xb (sfx b (N - k) N (-(nI m))) a := by
  have e0 : ∀ b v, sfx b N N v = b := fun b v => by funext i; unfold sfx; rw [if_neg (by omega)]
  intro k
  induction k with
  | zero =>
    intro _ b a h
    rw [Nat.sub_zero, e0] at h ⊢
    exact hv b a h
  | succ k ih =>
    intro hk b a h
    generalize hp : N - (k + 1) = p at h
    have hp1 : N - k = p + 1 := by omega
    have row : ∀ c v, sfx (upd b p c) (p + 1) N v = upd (sfx b (p + 1) N v) p c := by
      intro c v
      funext i
      by_cases h1 : i = p
      · subst h1
        unfold sfx
        rw [if_neg (by omega), upd_s, upd_s]
      · rw [upd_n h1]
        unfold sfx
        rw [upd_n h1]
    have row2 : ∀ v, sfx (upd b p v) (p + 1) N v = sfx b p N v := by
      intro v
      funext i
      unfold sfx
      by_cases h1 : i = p
      · subst h1
        rw [if_neg (by omega), upd_s, if_pos (by omega)]
      · rw [upd_n h1]
        by_cases h2 : p + 1 ≤ i ∧ i < N
        · rw [if_pos h2, if_pos (by omega)]
        · rw [if_neg h2, if_neg (by omega)]
    -- v = 0 .. 2 m
    have key : ∀ n v a, v + n = 2 * m + 1 → 1 ≤ n → Xa (sfx b p N (nI m)) (upn n v (fun v a => fldA f N m k (upd b (N - (k + 1)) (nI v - nI m)) a) a) → Xb (sfx (upd b p (nI v - nI m)) (p + 1) N (-(nI m))) a := by
      intro n
      induction n with
      | zero => intro v a _ h1; omega
      | succ n ihn =>
        intro v a hn _ hX
        have hX : Xa (sfx b p N (nI m)) (upn n (v + 1) (fun v a => fldA f N m k (upd b (N - (k + 1)) (nI v - nI m)) a) (fldA f N m k (upd b (N - (k + 1)) (nI v - nI m)) a)) := hX
        rw [hp] at hX
        rw [← hp1]
        apply ih (by omega)
        rw [hp1]
        cases n with
        | zero =>
          have hv2 : v = 2 * m := by omega
          subst hv2
          rw [vm_e hm, row2]
          rw [vm_e hm] at hX
          exact hX
        | succ n =>
          refine hg _ (sfx (upd b p (nI (v + 1) - nI m)) (p + 1) N (-(nI m))) _ ?_ (ihn (v + 1) _ (by omega) (by omega) (by rw [hp]; exact hX))
          have h1 : p + 1 + (N - (p + 1)) = N := by omega
          have h2 := goM_run m p (upd b p (nI v - nI m)) (by rw [upd_s]; exact vm_ne hm (by omega)) (N - (p + 1))
          rw [h1, upd_s, vm_s] at h2
          rw [h2, row, row]
          congr 1
          funext i
          by_cases h3 : i = p
          · subst h3; rw [upd_s, upd_s]
          · rw [upd_n h3, upd_n h3, upd_n h3]
    have := key (2 * m + 1) 0 a (by omega) (by omega) h
    rw [vm_0, row2] at this
    exact this
def mBe (N m : Nat) (b : Nat → Int32) : Nat → Int32 := upn N 0 (fun p b => upd b p (-(nI m))) b
theorem mBe_sfx (N m : Nat) (b : Nat → Int32) : mBe N m b = sfx b 0 N (-(nI m)) := by
  have gen : ∀ n, upn n 0 (fun p b => upd b p (-(nI m))) b = sfx b 0 n (-(nI m)) := by
    intro n
    induction n with
    | zero => funext i; unfold sfx; rw [if_neg (by omega)]; rfl
    | succ n ih =>
      rw [upn_last, ih]
      funext i
      rw [Nat.zero_add]
      by_cases h : i = n
      · subst h; rw [upd_s]; unfold sfx; rw [if_pos (by omega)]
      · rw [upd_n h]
        unfold sfx
        by_cases h2 : 0 ≤ i ∧ i < n
        · rw [if_pos h2, if_pos (by omega)]
        · rw [if_neg h2, if_neg (by omega)]
  exact gen N
