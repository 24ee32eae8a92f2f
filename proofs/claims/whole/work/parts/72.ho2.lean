/-! walls held, of both -/
def sg : Nat → Nat → (Nat → Int32) → Int32
  | 0, _, _ => 0
  | n + 1, k, h => h k + sg n (k + 1) h
theorem upn_sg {h : Nat → Int32} : ∀ n k (s : Int32), upn n k (fun j s => s + h j) s = s + sg n k h := by
  intro n
  induction n with
  | zero => intro k s; exact (Int32.add_zero s).symm
  | succ n ih =>
    intro k s
    show upn n (k + 1) _ (s + h k) = s + (h k + sg n (k + 1) h)
    rw [ih, Int32.add_assoc]
theorem sg_congr {h g : Nat → Int32} : ∀ n k, (∀ j, k ≤ j → j < k + n → h j = g j) → sg n k h = sg n k g := by
  intro n
  induction n with
  | zero => intro k _; rfl
  | succ n ih =>
    intro k hj
    show h k + sg n (k + 1) h = g k + sg n (k + 1) g
    rw [hj k (Nat.le_refl _) (by omega), ih (k + 1) (fun j a b => hj j (by omega) (by omega))]
theorem wSum_sg {n : Nat} {nu : Nat → Int32} : wSum n nu = sg n 0 nu := by
  unfold wSum
  rw [upn_sg, show nI 0 = (0 : Int32) from rfl, Int32.zero_add]
/-- the part of a cut -/
def inP (x : Int32) (b : Nat → Int32) (i : Nat) : Int32 := if hasP x i then b i else nI 0
theorem sepP_if {x : Int32} {i j : Nat} : sepP x i j ↔ ¬ (hasP x i ↔ hasP x j) := by
  unfold sepP
  by_cases h1 : hasP x i
  · by_cases h2 : hasP x j
    · rw [bI_t h1, bI_t h2]; exact ⟨fun q => absurd rfl q, fun q => absurd ⟨fun _ => h2, fun _ => h1⟩ q⟩
    · rw [bI_t h1, bI_f h2]; exact ⟨fun _ q => h2 (q.mp h1), fun _ => by decide⟩
  · by_cases h2 : hasP x j
    · rw [bI_f h1, bI_t h2]; exact ⟨fun _ q => h1 (q.mpr h2), fun _ => by decide⟩
    · rw [bI_f h1, bI_f h2]; exact ⟨fun q => absurd rfl q, fun q => absurd ⟨fun r => absurd r h1, fun r => absurd r h2⟩ q⟩
theorem rg1 (b k s t : Int32) : b * k + b * (s - t) = b * (k + s - t) := by grind
theorem rg2 (b k s t : Int32) : (nI 0) + b * (s - t) = b * (k + s - (k + t)) := by
  rw [show nI 0 = (0 : Int32) from rfl]; grind
theorem rg3 (b k t : Int32) : b * k + b * t = b * (k + t) := by grind
theorem rg4 (b s t : Int32) : b * (s - t) + t * (s - t) = (b + t) * (b + s - (b + t)) := by grind
theorem rg5 (b s t : Int32) : b * t + t * (s - t) = (nI 0 + t) * (b + s - (nI 0 + t)) := by
  rw [show nI 0 = (0 : Int32) from rfl]; grind
theorem sg_in {x : Int32} {b : Nat → Int32} {i : Nat} : ∀ n k, sg n k (fun j => if sepP x i j then b i * b j else nI 0) = if hasP x i then b i * (sg n k b - sg n k (inP x b)) else b i * sg n k (inP x b) := by
  intro n
  induction n with
  | zero =>
    intro k
    show (0 : Int32) = if hasP x i then b i * (0 - 0) else b i * 0
    split <;> simp
  | succ n ih =>
    intro k
    show (if sepP x i k then b i * b k else nI 0) + sg n (k + 1) (fun j => if sepP x i j then b i * b j else nI 0) = if hasP x i then b i * ((b k + sg n (k + 1) b) - (inP x b k + sg n (k + 1) (inP x b))) else b i * (inP x b k + sg n (k + 1) (inP x b))
    rw [ih]
    unfold inP
    by_cases h1 : hasP x i
    · rw [if_pos h1, if_pos h1]
      by_cases h2 : hasP x k
      · rw [if_pos h2, if_neg (fun q => (sepP_if.mp q) ⟨fun _ => h2, fun _ => h1⟩)]
        exact rg2 _ _ _ _
      · rw [if_neg h2, if_pos (sepP_if.mpr (fun q => h2 (q.mp h1))), show nI 0 = (0 : Int32) from rfl, Int32.zero_add]
        exact rg1 _ _ _ _
    · rw [if_neg h1, if_neg h1]
      by_cases h2 : hasP x k
      · rw [if_pos h2, if_pos (sepP_if.mpr (fun q => h1 (q.mpr h2)))]
        exact rg3 _ _ _
      · rw [if_neg h2, if_neg (fun q => (sepP_if.mp q) ⟨fun r => absurd r h1, fun r => absurd r h2⟩), show nI 0 = (0 : Int32) from rfl, Int32.zero_add, Int32.zero_add]
theorem sg_out {x : Int32} {b : Nat → Int32} {N : Nat} : ∀ n k, k + n = N → sg n k (fun i => sg (N - (i + 1)) (i + 1) (fun j => if sepP x i j then b i * b j else nI 0)) = sg n k (inP x b) * (sg n k b - sg n k (inP x b)) := by
  intro n
  induction n with
  | zero => intro k _; show (0 : Int32) = 0 * (0 - 0); simp
  | succ n ih =>
    intro k hk
    show sg (N - (k + 1)) (k + 1) (fun j => if sepP x k j then b k * b j else nI 0) + sg n (k + 1) _ = (inP x b k + sg n (k + 1) (inP x b)) * ((b k + sg n (k + 1) b) - (inP x b k + sg n (k + 1) (inP x b)))
    rw [ih (k + 1) (by omega), show N - (k + 1) = n by omega, sg_in]
    by_cases h1 : hasP x k
    · rw [if_pos h1, show inP x b k = b k from if_pos h1]
      exact rg4 _ _ _
    · rw [if_neg h1, show inP x b k = nI 0 from if_neg h1]
      exact rg5 _ _ _
theorem mRt_sg {N : Nat} {x : Int32} {b : Nat → Int32} : mRt N x b = sg N 0 (inP x b) * (sg N 0 b - sg N 0 (inP x b)) := by
  rw [← sg_out (x := x) (b := b) (N := N) N 0 (by omega)]
  unfold mRt
  have e : mRt2 N x b = fun i s => s + sg (N - (i + 1)) (i + 1) (fun j => if sepP x i j then b i * b j else nI 0) := by
    funext i s
    exact upn_sg _ _ _
  rw [e, upn_sg, show nI 0 = (0 : Int32) from rfl, Int32.zero_add]
theorem inC01 : ∀ s, s < 32 → ∀ k, k < 7 → inC (nI s) k = nI 0 ∨ inC (nI s) k = nI 1 := by decide +kernel
theorem inC_in {s k : Nat} {nu : Nat → Int32} (hs : s < 32) (hk : k < 7) (h0 : 0 < k) : inC (nI s) k * nu k = inP (nI s) nu k := by
  unfold inP
  rcases inC01 s hs k hk with e | e
  · rw [e, if_neg (fun q => by
      have : inC (nI s) k = nI 1 := q.2
      rw [e] at this
      exact absurd this (by decide)), show nI 0 = (0 : Int32) from rfl, Int32.zero_mul]
  · rw [if_pos ⟨h0, e⟩, e]
    exact Int32.one_mul _
theorem inP_0 {x : Int32} {nu : Nat → Int32} : inP x nu 0 = 0 := if_neg (fun q => absurd q.1 (by decide))
theorem tIC_sg {N s : Nat} {nu : Nat → Int32} (h1 : 1 ≤ N) (h6 : N ≤ 6) (hs : s < 32) : tIC N (nI s) nu = sg N 0 (inP (nI s) nu) := by
  unfold tIC
  have e : upn (N - 1) 1 (fun k a => a + inC (nI s) k * nu k) (nI 0) = upn (N - 1) 1 (fun k a => a + inP (nI s) nu k) (nI 0) := upn_congr _ _ _ (fun j b h2 h3 => by rw [inC_in hs (by omega) (by omega)])
  rw [e, upn_sg]
  obtain ⟨n, rfl⟩ : ∃ n, N = n + 1 := ⟨N - 1, by omega⟩
  show nI 0 + sg (n + 1 - 1) 1 _ = inP (nI s) nu 0 + sg n 1 _
  rw [inP_0, show n + 1 - 1 = n by omega]
  rfl
theorem sg_bd {h : Nat → Int32} : ∀ n k, (∀ j, k ≤ j → j < k + n → ∃ v, v ≤ 6 ∧ h j = nI v - nI 3) → ∃ V, V ≤ 6 * n ∧ sg n k h = nI V - nI (3 * n) := by
  intro n
  induction n with
  | zero => intro k _; exact ⟨0, by omega, rfl⟩
  | succ n ih =>
    intro k hj
    obtain ⟨V, hV, e⟩ := ih (k + 1) (fun j a b => hj j (by omega) (by omega))
    obtain ⟨v, hv, e2⟩ := hj k (Nat.le_refl _) (by omega)
    refine ⟨v + V, by omega, ?_⟩
    show h k + sg n (k + 1) h = _
    rw [e, e2, show 3 * (n + 1) = 3 + 3 * n by omega, ← nI_add, ← nI_add]
    grind
theorem w_v {v : Int32} (h : -3 ≤ v.toInt ∧ v.toInt ≤ 3) : ∃ u, u ≤ 6 ∧ v = nI u - nI 3 := by
  refine ⟨(v.toInt + 3).toNat, by omega, ?_⟩
  rw [iEq, Int32.toInt_sub, nI_e (by omega), nI_e (by omega), bm32 (by omega) (by omega)]
  omega
theorem t_bd {N s : Nat} {nu : Nat → Int32} (h6 : N ≤ 6) (hw : wIn N nu) : ∃ V, V < 37 ∧ sg N 0 (inP (nI s) nu) = nI V - nI 18 := by
  obtain ⟨V, hV, e⟩ := sg_bd (h := inP (nI s) nu) N 0 (fun j _ hj => by
    unfold inP
    by_cases q : hasP (nI s) j
    · rw [if_pos q]
      exact w_v (hw j (by omega))
    · rw [if_neg q]
      exact ⟨3, by omega, rfl⟩)
  refine ⟨V + (18 - 3 * N), by omega, ?_⟩
  rw [e, ← nI_add, show nI 18 = nI (18 - 3 * N) + nI (3 * N) by rw [nI_add, show 18 - 3 * N + 3 * N = 18 by omega]]
  grind
theorem t_iff : ∀ V, V < 37 → ((nI V - nI 18) * (1 - (nI V - nI 18)) = 0 ↔ (nI V - nI 18 = 0 ∨ nI V - nI 18 = nI 1)) := by decide +kernel
theorem r_isRt {N s : Nat} {nu b : Nat → Int32} (h1 : 1 ≤ N) (h6 : N ≤ 6) (hs : s < 32) (hw : isW N nu) (hb : ∀ k, k < N → nu k = b k) : isRt N nu (nI s) ↔ mRt N (nI s) b = 0 := by
  have hwb := hw.congr hb
  have e1 : sg N 0 (inP (nI s) nu) = sg N 0 (inP (nI s) b) := sg_congr _ _ (fun j _ hj => by unfold inP; rw [hb j (by omega)])
  rw [mRt_sg, show sg N 0 b = 1 from wSum_sg.symm.trans hwb.2, ← e1]
  unfold isRt
  rw [tIC_sg h1 h6 hs]
  obtain ⟨V, hV, e⟩ := t_bd (s := s) h6 hw.1
  rw [e]
  exact (t_iff V hV).symm
theorem r_root {N : Nat} {nu b : Nat → Int32} {y : Int32} (h1 : 1 ≤ N) (h6 : N ≤ 6) (hw : isW N nu) (hb : ∀ k, k < N → nu k = b k) : ∀ n s (a : Int32), s + n ≤ 32 → xRf N nu y n s a = rtF N b n s (y - a) := by
  intro n
  induction n with
  | zero => intro s a _; rfl
  | succ n ih =>
    intro s a hs
    unfold xRf rtF
    have iff := r_isRt h1 h6 (s := s) (by omega) hw hb
    by_cases q : isRt N nu (nI s)
    · rw [if_pos q, if_pos (iff.mp q)]
      by_cases e : a = y
      · rw [if_pos e, if_pos (by rw [e, Int32.sub_self])]
      · rw [if_neg e, if_neg (fun r => e (by
          have : y = a := by
            have := congrArg (· + a) r
            simpa [Int32.sub_add_cancel] using this
          exact this.symm)), ih (s + 1) _ (by omega)]
        rw [show y - (a + nI 1) = y - a + Int32.ofInt (-1) by
          rw [show nI 1 = (1 : Int32) from rfl, show Int32.ofInt (-1) = (-1 : Int32) from rfl]
          grind]
    · rw [if_neg q, if_neg (fun r => q (iff.mpr r))]
      exact ih (s + 1) a (by omega)
theorem r_rc {N : Nat} {nu b : Nat → Int32} {t : Nat → Int64} (h2 : 2 ≤ N) (h6 : N ≤ 6) (hw : isW N nu) (hb : ∀ k, k < N → nu k = b k) : xRc N N nu = nI (mRs N b t).1 := by
  have hl := lC_le h2 h6
  have := upn_relI (fun s (x : Int32) (w : Nat × (Nat → Int64)) => x = nI w.1) (f := fun s a => a + bI (isRt N nu (nI s))) (g := mRs1 N b) (lC N) 1 (nI 0) (0, t) ?_ rfl
  · exact this
  · intro s x w h3 h4 e
    have iff := r_isRt (by omega) h6 (s := s) (by omega) hw hb
    unfold mRs1
    by_cases q : isRt N nu (nI s)
    · rw [if_pos (iff.mp q), bI_t q, e]
      exact nI_add _ 1
    · rw [if_neg (fun r => q (iff.mpr r)), bI_f q, e, Int32.add_zero]
theorem mLd_at {N h p : Nat} {c b : Nat → Int32} : mLd N h c b p = if p < N then c (20 * h + p) else b p := by
  have := upn_at (g := fun p _ => c (20 * h + p)) N 0 b p
  unfold mLd
  rw [this]
  by_cases e : p < N
  · rw [if_pos e, if_pos (by omega)]
  · rw [if_neg e, if_neg (by omega)]
