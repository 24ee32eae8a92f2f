/-! rank: the model's side -/
theorem ib {a b : Int} (h1 : -4096 ≤ a) (h2 : a ≤ 4096) (h3 : -4096 ≤ b) (h4 : b ≤ 4096) : -16777216 ≤ a * b ∧ a * b ≤ 16777216 := by
  have h : (a * b).natAbs ≤ 4096 * 4096 := by
    rw [Int.natAbs_mul]
    exact Nat.mul_le_mul (by omega) (by omega)
  omega
theorem ent0 {L B X E F iv c1 c2 Z k1 k2 k3 k4 M : Int} (h1 : c1 = B * iv + M * k1) (h2 : c2 = M * k2 - X * iv) (h3 : L * iv = 1 + M * k3) (h4 : Z = c1 * E + c2 * F + M * k4) : L * Z = (B * E - X * F) + M * (B * E * k3 - X * F * k3 + L * k1 * E + L * k2 * F + L * k4) := by
  subst h4
  subst h1
  subst h2
  have e : L * ((B * iv + M * k1) * E + (M * k2 - X * iv) * F + M * k4) = (L * iv) * (B * E) + L * M * k1 * E + L * M * k2 * F - (L * iv) * (X * F) + L * M * k4 := by grind
  rw [e, h3]
  grind
theorem n_mod {a m : Nat} : ∃ k : Int, ((a % m : Nat) : Int) = (a : Int) + (m : Int) * k := by
  refine ⟨-((a / m : Nat) : Int), ?_⟩
  have h := Nat.div_add_mod a m
  have h2 : (a : Int) = (m : Int) * ((a / m : Nat) : Int) + ((a % m : Nat) : Int) := by
    rw [← Int.natCast_mul, ← Int.natCast_add, h]
  rw [h2]
  grind
/-- one number of the elimination -/
theorem ent {b x l e f iv : Nat} {Bv Xv Lv Ev Fv : Int64} (hb : b ≤ 8191) (hx : x ≤ 8191) (hl : l ≤ 8191) (he : e ≤ 8191) (hf : f ≤ 8191) (eB : Bv.toInt = (b : Int) - 4096) (eX : Xv.toInt = (x : Int) - 4096) (eL : Lv.toInt = (l : Int) - 4096) (eE : Ev.toInt = (e : Int) - 4096) (eF : Fv.toInt = (f : Int) - 4096) (hi : (iv * (2147479551 + l)) % 2147483647 = 1)
    (hz : ((2147479551 + b) * iv % 2147483647 * e + (2147487743 - x) * iv % 2147483647 * f + (4096 + 4096 * (4294967294 - ((2147479551 + b) * iv % 2147483647 + (2147487743 - x) * iv % 2147483647)))) % 2147483647 ≤ 8191) :
    ((Bv * Ev - Xv * Fv) / Lv).toInt = ((((2147479551 + b) * iv % 2147483647 * e + (2147487743 - x) * iv % 2147483647 * f + (4096 + 4096 * (4294967294 - ((2147479551 + b) * iv % 2147483647 + (2147487743 - x) * iv % 2147483647)))) % 2147483647 : Nat) : Int) - 4096 := by
  have hL0 : ¬ l = 4096 := by
    intro q
    rw [q, show 2147479551 + 4096 = 2147483647 from rfl, Nat.mul_mod_left] at hi
    exact absurd hi (by decide)
  obtain ⟨q1, h1⟩ := n_mod (a := (2147479551 + b) * iv) (m := 2147483647)
  obtain ⟨q2, h2⟩ := n_mod (a := (2147487743 - x) * iv) (m := 2147483647)
  obtain ⟨q3, h3⟩ := n_mod (a := iv * (2147479551 + l)) (m := 2147483647)
  have l1 : (2147479551 + b) * iv % 2147483647 < 2147483647 := Nat.mod_lt _ (by decide)
  have l2 : (2147487743 - x) * iv % 2147483647 < 2147483647 := Nat.mod_lt _ (by decide)
  rw [hi] at h3
  generalize hc1 : (2147479551 + b) * iv % 2147483647 = c1 at *
  generalize hc2 : (2147487743 - x) * iv % 2147483647 = c2 at *
  obtain ⟨q4, h4⟩ := n_mod (a := c1 * e + c2 * f + (4096 + 4096 * (4294967294 - (c1 + c2)))) (m := 2147483647)
  generalize hz' : (c1 * e + c2 * f + (4096 + 4096 * (4294967294 - (c1 + c2)))) % 2147483647 = z at *
  have s1 : ((4294967294 - (c1 + c2) : Nat) : Int) = 4294967294 - ((c1 : Int) + c2) := by omega
  have s2 : ((2147487743 - x : Nat) : Int) = 2147487743 - (x : Int) := by omega
  rw [Int.natCast_mul, Int.natCast_add] at h1
  rw [Int.natCast_mul, s2] at h2
  rw [Int.natCast_mul, Int.natCast_add] at h3
  rw [Int.natCast_add, Int.natCast_add, Int.natCast_mul, Int.natCast_mul, Int.natCast_add, Int.natCast_mul, s1] at h4
  have key := ent0 (L := (l : Int) - 4096) (B := (b : Int) - 4096) (X := (x : Int) - 4096) (E := (e : Int) - 4096) (F := (f : Int) - 4096) (iv := (iv : Int)) (c1 := (c1 : Int)) (c2 := (c2 : Int)) (Z := (z : Int) - 4096) (k1 := (iv : Int) + q1) (k2 := (iv : Int) + q2) (k3 := -(iv : Int) - q3) (k4 := 8192 + q4) (M := 2147483647) (by rw [h1]; grind) (by rw [h2]; grind) (by grind) (by rw [h4]; grind)
  generalize hw : ((b : Int) - 4096) * ((e : Int) - 4096) * (-(iv : Int) - q3) - ((x : Int) - 4096) * ((f : Int) - 4096) * (-(iv : Int) - q3) + ((l : Int) - 4096) * ((iv : Int) + q1) * ((e : Int) - 4096) + ((l : Int) - 4096) * ((iv : Int) + q2) * ((f : Int) - 4096) + ((l : Int) - 4096) * (8192 + q4) = W at key
  have b1 := ib (a := (l : Int) - 4096) (b := (z : Int) - 4096) (by omega) (by omega) (by omega) (by omega)
  have b2 := ib (a := (b : Int) - 4096) (b := (e : Int) - 4096) (by omega) (by omega) (by omega) (by omega)
  have b3 := ib (a := (x : Int) - 4096) (b := (f : Int) - 4096) (by omega) (by omega) (by omega) (by omega)
  have m1 : (Bv * Ev).toInt = ((b : Int) - 4096) * ((e : Int) - 4096) := by rw [Int64.toInt_mul, eB, eE, bm64 (by omega) (by omega)]
  have m2 : (Xv * Fv).toInt = ((x : Int) - 4096) * ((f : Int) - 4096) := by rw [Int64.toInt_mul, eX, eF, bm64 (by omega) (by omega)]
  have m3 : (Bv * Ev - Xv * Fv).toInt = ((b : Int) - 4096) * ((e : Int) - 4096) - ((x : Int) - 4096) * ((f : Int) - 4096) := by rw [Int64.toInt_sub, m1, m2, bm64 (by omega) (by omega)]
  have e0 : ((b : Int) - 4096) * ((e : Int) - 4096) - ((x : Int) - 4096) * ((f : Int) - 4096) = ((l : Int) - 4096) * ((z : Int) - 4096) := by
    generalize ((l : Int) - 4096) * ((z : Int) - 4096) = u1 at *
    generalize ((b : Int) - 4096) * ((e : Int) - 4096) = u2 at *
    generalize ((x : Int) - 4096) * ((f : Int) - 4096) = u3 at *
    omega
  rw [Int64.toInt_div, m3, eL, e0, Int.mul_tdiv_cancel_left _ (by omega), bm64 (by omega) (by omega)]
def VM : Nat → List Nat → (Nat → Int64) → Prop
  | _, [], _ => True
  | k, x :: L, g => x ≤ 8191 ∧ (g k).toInt = (x : Int) - 4096 ∧ VM (k + 1) L g
def RM (n c : Nat) : Nat → List (List Nat) → (Nat → Int64) → Prop
  | _, [], _ => True
  | r, R :: rs, t => R.length = n ∧ VM c R (fun k => t (15 * r + k)) ∧ RM n c (r + 1) rs t
theorem VM.congr {g g' : Nat → Int64} : ∀ (L : List Nat) (k : Nat), VM k L g → (∀ d, k ≤ d → d < k + L.length → g' d = g d) → VM k L g'
  | [], _, _, _ => trivial
  | x :: L, k, h, e => ⟨h.1, by rw [e k (Nat.le_refl _) (by simp)]; exact h.2.1, VM.congr L (k + 1) h.2.2 (fun d h1 h2 => e d (by omega) (by simp; omega))⟩
theorem RM.congr {n c : Nat} {t t' : Nat → Int64} (hn : c + n ≤ 15) : ∀ (A : List (List Nat)) (r : Nat), RM n c r A t → (∀ i, r ≤ i → i < r + A.length → ∀ k, k < 15 → t' (15 * i + k) = t (15 * i + k)) → RM n c r A t'
  | [], _, _, _ => trivial
  | R :: A, r, h, e => ⟨h.1, VM.congr R c h.2.1 (fun d h1 h2 => e r (Nat.le_refl _) (by simp) d (by rw [h.1] at h2; omega)), RM.congr hn A (r + 1) h.2.2 (fun i h1 h2 => e i (by omega) (by simp; omega))⟩
theorem RM.app {n c : Nat} {t : Nat → Int64} {B : List (List Nat)} : ∀ (A : List (List Nat)) (r : Nat), RM n c r (A ++ B) t ↔ RM n c r A t ∧ RM n c (r + A.length) B t
  | [], r => by simp [RM]
  | R :: A, r => by
    have := RM.app (n := n) (c := c) (t := t) (B := B) A (r + 1)
    show (R.length = n ∧ _ ∧ RM n c (r + 1) (A ++ B) t) ↔ (R.length = n ∧ _ ∧ RM n c (r + 1) A t) ∧ RM n c (r + (A.length + 1)) B t
    rw [this, show r + 1 + A.length = r + (A.length + 1) by omega]
    constructor
    · intro h; exact ⟨⟨h.1, h.2.1, h.2.2.1⟩, h.2.2.2⟩
    · intro h; exact ⟨h.1.1, h.1.2.1, h.1.2.2, h.2⟩
theorem exc_at {p q : Nat} {t : Nat → Int64} (i k : Nat) (hk : k < 15) : exc p q t (15 * i + k) = if i = q then t (15 * p + k) else if i = p then t (15 * q + k) else t (15 * i + k) := by
  have key := upn_inv (f := exc1 p q) (fun n (u : Nat → Int64) => ∀ i k, k < 15 → u (15 * i + k) = if k < n then (if i = q then t (15 * p + k) else if i = p then t (15 * q + k) else t (15 * i + k)) else t (15 * i + k)) 15 0 t ?_ (fun i k _ => by rw [if_neg (by omega)])
  · have := key i k hk
    rw [if_pos (by omega)] at this
    exact this
  · intro n u _ hn hu i k hk
    unfold exc1
    by_cases e : k = n
    · subst e
      rw [if_pos (by omega)]
      by_cases e1 : i = q
      · subst e1
        rw [updL_s, if_pos rfl, hu p k hk, if_neg (by omega)]
      · rw [updL_n (by omega), if_neg e1]
        by_cases e2 : i = p
        · subst e2
          rw [updL_s, if_pos rfl, hu q k hk, if_neg (by omega)]
        · rw [updL_n (by omega), if_neg e2, hu i k hk, if_neg (by omega)]
    · rw [updL_n (by omega), updL_n (by omega), hu i k hk]
      by_cases e3 : k < n
      · rw [if_pos e3, if_pos (c := k < n + 1) (by omega)]
      · rw [if_neg e3, if_neg (c := k < n + 1) (by omega)]
theorem el2_at {dn c r : Nat} {b last : Int64} {t : Nat → Int64} (hr : r ≠ dn) (i k : Nat) (hk : k < 15) : el2 dn c b last r t (15 * i + k) = if i = r then (b * t (15 * r + k) - t (15 * r + c) * t (15 * dn + k)) / last else t (15 * i + k) := by
  have key := upn_inv (f := el1 dn r b (t (15 * r + c)) last) (fun n (u : Nat → Int64) => ∀ i k, k < 15 → u (15 * i + k) = if i = r ∧ k < n then (b * t (15 * r + k) - t (15 * r + c) * t (15 * dn + k)) / last else t (15 * i + k)) 15 0 t ?_ (fun i k _ => by rw [if_neg (by omega)])
  · have := key i k hk
    show upn 15 0 (el1 dn r b (t (15 * r + c)) last) t (15 * i + k) = _
    rw [Nat.zero_add] at key
    rw [key i k hk]
    by_cases e : i = r
    · rw [if_pos e, if_pos ⟨e, hk⟩]
    · rw [if_neg e, if_neg (fun q => e q.1)]
  · intro n u _ hn hu i k hk
    unfold el1
    by_cases e : i = r ∧ k = n
    · obtain ⟨rfl, rfl⟩ := e
      rw [updL_s, if_pos ⟨rfl, by omega⟩, hu i k hk, if_neg (by omega), hu dn k hk, if_neg (fun q => hr q.1.symm)]
    · rw [updL_n (by omega), hu i k hk]
      by_cases e2 : i = r ∧ k < n
      · rw [if_pos e2, if_pos ⟨e2.1, by omega⟩]
      · rw [if_neg e2, if_neg (by omega)]
theorem elim_at {d c : Nat} {b last : Int64} {t : Nat → Int64} (hc : c < 15) (m : Nat) (i k : Nat) (hk : k < 15) : upn m (d + 1) (el2 d c b last) t (15 * i + k) = if d + 1 ≤ i ∧ i < d + 1 + m then (b * t (15 * i + k) - t (15 * i + c) * t (15 * d + k)) / last else t (15 * i + k) := by
  have key := upn_inv (f := el2 d c b last) (fun n (u : Nat → Int64) => ∀ i k, k < 15 → u (15 * i + k) = if d + 1 ≤ i ∧ i < n then (b * t (15 * i + k) - t (15 * i + c) * t (15 * d + k)) / last else t (15 * i + k)) m (d + 1) t ?_ (fun i k _ => by rw [if_neg (by omega)])
  · exact key i k hk
  · intro n u h1 h2 hu i k hk
    rw [el2_at (by omega) i k hk]
    by_cases e : i = n
    · rw [if_pos e, if_pos (by omega), hu n k hk, if_neg (by omega), hu n c hc, if_neg (by omega), hu d k hk, if_neg (by omega), e]
    · rw [if_neg e, hu i k hk]
      by_cases e2 : d + 1 ≤ i ∧ i < n
      · rw [if_pos e2, if_pos (by omega)]
      · rw [if_neg e2, if_neg (by omega)]
def hd0 (R : List Nat) : Prop := ∃ f, R = 4096 :: f
theorem pvL_spec {n : Nat} : ∀ (M : List (List Nat)), (∀ R, R ∈ M → R.length = n + 1) → (pvL M = none ∧ ∀ R, R ∈ M → hd0 R) ∨ ∃ pre b pt post, pvL M = some (pre, b :: pt, post) ∧ M = pre ++ (b :: pt) :: post ∧ (∀ R, R ∈ pre → hd0 R) ∧ ¬ b = 4096
  | [], _ => Or.inl ⟨rfl, fun R h => absurd h List.not_mem_nil⟩
  | R :: M, h => by
    have hR := h R List.mem_cons_self
    match R, hR with
    | x :: f, hR =>
      have ih := pvL_spec M (fun R hR => h R (List.mem_cons_of_mem _ hR))
      have e : pvL ((x :: f) :: M) = bR (Nat.beq x 4096) (@Option.rec (List (List Nat) × List Nat × List (List Nat)) (fun _ => Option (List (List Nat) × List Nat × List (List Nat))) none (fun q => some ((x :: f) :: q.1, q.2.1, q.2.2)) (pvL M)) (some ([], x :: f, M)) := rfl
      by_cases hx : x = 4096
      · subst hx
        rcases ih with ⟨i1, i2⟩ | ⟨pre, b, pt, post, i1, i2, i3, i4⟩
        · left
          rw [e, i1]
          refine ⟨rfl, fun R hR => ?_⟩
          rcases List.mem_cons.mp hR with rfl | hR
          · exact ⟨f, rfl⟩
          · exact i2 R hR
        · right
          refine ⟨(4096 :: f) :: pre, b, pt, post, ?_, ?_, fun R hR => ?_, i4⟩
          · rw [e, i1]; rfl
          · rw [i2]; rfl
          · rcases List.mem_cons.mp hR with rfl | hR
            · exact ⟨f, rfl⟩
            · exact i3 R hR
      · right
        refine ⟨[], x, f, M, ?_, rfl, fun R hR => absurd hR List.not_mem_nil, hx⟩
        rw [e, beq_f hx]
theorem fnd_skip {n c : Nat} {t : Nat → Int64} : ∀ (A : List (List Nat)) (r m : Nat), RM n c r A t → (∀ R, R ∈ A → hd0 R) → fnd t c (A.length + m) r = fnd t c m (r + A.length)
  | [], r, m, _, _ => by simp
  | R :: A, r, m, h, hz => by
    obtain ⟨f, rfl⟩ := hz R List.mem_cons_self
    have z : t (15 * r + c) = 0 := by
      have := h.2.1.2.1
      dsimp only at this
      rw [lEq, this]
      rfl
    show fnd t c ((A.length + 1) + m) r = _
    rw [show A.length + 1 + m = (A.length + m) + 1 by omega]
    show (if t (15 * r + c) = 0 then fnd t c (A.length + m) (r + 1) else r) = _
    rw [if_pos z, fnd_skip A (r + 1) m h.2.2 (fun R hR => hz R (List.mem_cons_of_mem _ hR))]
    congr 1
    simp
    omega
theorem RM_tls {n c : Nat} {t : Nat → Int64} : ∀ (A : List (List Nat)) (r : Nat), RM (n + 1) c r A t → RM n (c + 1) r (tls A) t ∧ (tls A).length = A.length
  | [], _, _ => ⟨trivial, rfl⟩
  | R :: A, r, h => by
    obtain ⟨h1, h2, h3⟩ := h
    match R, h1, h2 with
    | x :: f, h1, h2 =>
      have := RM_tls A (r + 1) h3
      exact ⟨⟨Nat.succ.inj h1, h2.2.2, this.1⟩, by show (tls A).length + 1 = A.length + 1; rw [this.2]⟩
theorem RM_mem {n c : Nat} {t : Nat → Int64} : ∀ (A : List (List Nat)) (r : Nat), RM n c r A t → ∀ R, R ∈ A → R.length = n
  | [], _, _, R, h => absurd h List.not_mem_nil
  | R0 :: A, r, h, R, hR => by
    rcases List.mem_cons.mp hR with rfl | hR
    · exact h.1
    · exact RM_mem A (r + 1) h.2.2 R hR
theorem oth_cons {post : List (List Nat)} {r : List Nat} : ∀ pre : List (List Nat), oth (r :: pre) post = pre ++ r :: post := by
  intro pre
  induction pre with
  | nil => rfl
  | cons a pre ih =>
    show a :: oth (r :: pre) post = _
    rw [ih]
    rfl
/-- two rows exchanged -/
theorem RM_exc {n c d : Nat} {t : Nat → Int64} {pre post : List (List Nat)} {p : List Nat} (hn : c + n ≤ 15) (h : RM n c d (pre ++ p :: post) t) : RM n c d (p :: oth pre post) (exc (d + pre.length) d t) := by
  obtain ⟨h1, h2⟩ := (RM.app pre d).mp h
  obtain ⟨p1, p2, p3⟩ := h2
  match pre, h1, p2, p3 with
  | [], h1, p2, p3 =>
    refine ⟨p1, VM.congr p c p2 (fun k k1 k2 => ?_), RM.congr hn post (d + 1) p3 (fun i i1 i2 k hk => ?_)⟩
    · rw [exc_at d k (by rw [p1] at k2; omega), if_pos rfl]
    · rw [exc_at i k hk, if_neg (by omega), if_neg (by show ¬ i = d + 0; omega)]
  | m0 :: pre, h1, p2, p3 =>
    have el : d + (m0 :: pre).length = d + 1 + pre.length := by simp; omega
    rw [el] at p2 p3 ⊢
    rw [oth_cons]
    refine ⟨p1, VM.congr p c p2 (fun k k1 k2 => ?_), (RM.app pre (d + 1)).mpr ⟨RM.congr hn pre (d + 1) h1.2.2 (fun i i1 i2 k hk => ?_), h1.1, VM.congr m0 c h1.2.1 (fun k k1 k2 => ?_), RM.congr hn post _ p3 (fun i i1 i2 k hk => ?_)⟩⟩
    · rw [exc_at d k (by rw [p1] at k2; omega), if_pos rfl]
    · rw [exc_at i k hk, if_neg (by omega), if_neg (by omega)]
    · have hk : k < 15 := by rw [h1.1] at k2; omega
      rw [exc_at _ k hk, if_neg (by omega), if_pos rfl]
    · rw [exc_at i k hk, if_neg (by omega), if_neg (by omega)]
