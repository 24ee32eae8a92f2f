/-! rank: the model's elimination -/
theorem lor_le {a b : Nat} (h : Nat.lor a b ≤ 8191) : a ≤ 8191 ∧ b ≤ 8191 := ⟨Nat.le_trans (Nat.left_le_or (n := a) (m := b)) h, Nat.le_trans (Nat.right_le_or (n := a) (m := b)) h⟩
theorem rop_len {c1 c2 c0 : Nat} : ∀ (f g : List Nat), f.length = g.length → (rop c1 c2 c0 f g).length = f.length
  | [], [], _ => rfl
  | [], _ :: _, h => by simp at h
  | _ :: _, [], h => by simp at h
  | a :: f, b :: g, h => by
    show (rop c1 c2 c0 f g).length + 1 = f.length + 1
    rw [rop_len f g (by simpa using h)]
theorem VM_rop {b x l iv : Nat} {Bv Xv Lv : Int64} {g gp : Nat → Int64} (hb : b ≤ 8191) (hx : x ≤ 8191) (hl : l ≤ 8191) (eB : Bv.toInt = (b : Int) - 4096) (eX : Xv.toInt = (x : Int) - 4096) (eL : Lv.toInt = (l : Int) - 4096) (hi : (iv * (2147479551 + l)) % 2147483647 = 1) : ∀ (f pt : List Nat) (k : Nat), f.length = pt.length → VM k f g → VM k pt gp → lorL (ropc (Nat.mod (Nat.mul (Nat.add 2147479551 b) iv) 2147483647) (Nat.mod (Nat.mul (Nat.sub 2147487743 x) iv) 2147483647) f pt) ≤ 8191 → VM k (ropc (Nat.mod (Nat.mul (Nat.add 2147479551 b) iv) 2147483647) (Nat.mod (Nat.mul (Nat.sub 2147487743 x) iv) 2147483647) f pt) (fun j => (Bv * g j - Xv * gp j) / Lv)
  | [], [], _, _, _, _, _ => trivial
  | [], _ :: _, _, h, _, _, _ => by simp at h
  | _ :: _, [], _, h, _, _, _ => by simp at h
  | a :: f, b' :: pt, k, h, h1, h2, h3 => by
    obtain ⟨h4, h5⟩ := lor_le h3
    exact ⟨h4, ent hb hx hl h1.1 h2.1 eB eX eL h1.2.1 h2.2.1 hi h4, VM_rop hb hx hl eB eX eL hi f pt (k + 1) (by simpa using h) h1.2.2 h2.2.2 h5⟩
theorem RM_rops {n c d b l iv : Nat} {t1 t2 : Nat → Int64} {Bv Lv : Int64} {pt : List Nat} (hn : c + n + 1 ≤ 15) (hb : b ≤ 8191) (hl : l ≤ 8191) (eB : Bv.toInt = (b : Int) - 4096) (eL : Lv.toInt = (l : Int) - 4096) (hi : (iv * (2147479551 + l)) % 2147483647 = 1) (hpt : pt.length = n) (hp : VM (c + 1) pt (fun k => t1 (15 * d + k))) : ∀ (A : List (List Nat)) (r : Nat), RM (n + 1) c r A t1 → lorLL (rops b iv pt A) ≤ 8191 → (∀ i, r ≤ i → i < r + A.length → ∀ k, k < 15 → t2 (15 * i + k) = (Bv * t1 (15 * i + k) - t1 (15 * i + c) * t1 (15 * d + k)) / Lv) → RM n (c + 1) r (rops b iv pt A) t2 ∧ (rops b iv pt A).length = A.length
  | [], _, _, _, _ => ⟨trivial, rfl⟩
  | R :: A, r, h, ho, e => by
    obtain ⟨h1, h2, h3⟩ := h
    match R, h1, h2, ho with
    | x :: f, h1, h2, ho =>
      obtain ⟨o1, o2⟩ := lor_le ho
      have hf : f.length = n := Nat.succ.inj h1
      obtain ⟨r1, r2⟩ := RM_rops hn hb hl eB eL hi hpt hp A (r + 1) h3 o2 (fun i i1 i2 => e i (by omega) (by simp; omega))
      refine ⟨⟨?_, ?_, r1⟩, by show (rops b iv pt A).length + 1 = A.length + 1; rw [r2]⟩
      · exact (rop_len f pt (by omega)).trans hf
      · have v := VM_rop (Bv := Bv) (Lv := Lv) (g := fun k => t1 (15 * r + k)) hb h2.1 hl eB h2.2.1 eL hi f pt (c + 1) (by omega) h2.2.2 hp o1
        refine v.congr _ _ (fun k k1 k2 => ?_)
        have k2' : k < c + 1 + f.length := by
          have := rop_len (c1 := Nat.mod (Nat.mul (Nat.add 2147479551 b) iv) 2147483647) (c2 := Nat.mod (Nat.mul (Nat.sub 2147487743 x) iv) 2147483647) (c0 := Nat.add 4096 (Nat.mul 4096 (Nat.sub 4294967294 (Nat.add (Nat.mod (Nat.mul (Nat.add 2147479551 b) iv) 2147483647) (Nat.mod (Nat.mul (Nat.sub 2147487743 x) iv) 2147483647))))) f pt (by omega)
          rw [← this]
          exact k2
        exact e r (Nat.le_refl _) (by simp) k (by omega)
theorem oth_len {post : List (List Nat)} : ∀ pre : List (List Nat), (oth pre post).length = pre.length + post.length
  | [] => by show post.length = 0 + post.length; omega
  | r :: pre => by rw [oth_cons]; simp; omega
theorem siM_eq {n l k : Nat} {rs : List (List Nat)} : siM (n + 1) rs l k = siS (siM n) rs l k := rfl
theorem siS_none {ih : List (List Nat) → Nat → Nat → Nat} {rs : List (List Nat)} {l k : Nat} (h : pvL rs = none) : siS ih rs l k = ih (tls rs) l k := by
  unfold siS
  rw [h]
theorem siS_some {ih : List (List Nat) → Nat → Nat → Nat} {rs pre post : List (List Nat)} {l k b : Nat} {pt : List Nat} (h : pvL rs = some (pre, b :: pt, post)) (hlt : siS ih rs l k < 1000) : Nat.beq (Nat.mod (Nat.mul (ivM l) (Nat.add 2147479551 l)) 2147483647) 1 = true ∧ Nat.ble (lorLL (rops b (ivM l) pt (oth pre post))) 8191 = true ∧ siS ih rs l k = ih (rops b (ivM l) pt (oth pre post)) b (Nat.add k 1) := by
  unfold siS at hlt ⊢
  rw [h] at hlt ⊢
  unfold siT at hlt ⊢
  dsimp only at hlt ⊢
  cases q : Nat.beq (Nat.mod (Nat.mul (ivM l) (Nat.add 2147479551 l)) 2147483647) 1 with
  | false => rw [q] at hlt; exact absurd (show 1000 < 1000 from hlt) (by decide)
  | true =>
    rw [q] at hlt
    cases q2 : Nat.ble (lorLL (rops b (ivM l) pt (oth pre post))) 8191 with
    | false => rw [q2] at hlt; exact absurd (show 1000 < 1000 from hlt) (by decide)
    | true => exact ⟨rfl, rfl, rfl⟩
theorem r_siM {C rows : Nat} (hC : C ≤ 15) : ∀ n c (M : List (List Nat)) (s : RK) (l k : Nat), c + n = C → s.2.1 + M.length = rows → RM n c s.2.1 M s.1 → l ≤ 8191 → s.2.2.toInt = (l : Int) - 4096 → siM n M l k < 1000 → (upn n c (rk1 rows) s).2.1 + k = s.2.1 + siM n M l k := by
  intro n
  induction n with
  | zero => intro c M s l k _ _ _ _ _ _; rfl
  | succ n ih =>
    intro c M s l k hc hr hM hl hls hlt
    have hlen := RM_mem M _ hM
    show (upn n (c + 1) (rk1 rows) (rk1 rows c s)).2.1 + k = _
    have er : rows - s.2.1 = M.length := by omega
    rw [siM_eq] at hlt ⊢
    rcases pvL_spec M hlen with ⟨e, hz⟩ | ⟨pre, b, pt, post, e, eM, hz, hb⟩
    · rw [siS_none e] at hlt ⊢
      have ef : fnd s.1 c (rows - s.2.1) s.2.1 = rows := by
        have := fnd_skip M s.2.1 0 hM hz
        rw [er]
        rw [Nat.add_zero] at this
        rw [this]
        exact hr
      have es : rk1 rows c s = s := by
        unfold rk1
        rw [if_pos ef]
      rw [es]
      obtain ⟨t1, t2⟩ := RM_tls M s.2.1 hM
      exact ih (c + 1) (tls M) s l k (by omega) (by rw [t2]; exact hr) t1 hl hls hlt
    · obtain ⟨c1, c2, c3⟩ := siS_some e hlt
      rw [c3] at hlt ⊢
      have hi : (ivM l * (2147479551 + l)) % 2147483647 = 1 := Nat.eq_of_beq_eq_true c1
      have ho : lorLL (rops b (ivM l) pt (oth pre post)) ≤ 8191 := Nat.le_of_ble_eq_true c2
      subst eM
      obtain ⟨a1, a2⟩ := (RM.app pre s.2.1).mp hM
      have hbt : s.1 (15 * (s.2.1 + pre.length) + c) ≠ 0 := by
        have := a2.2.1.2.1
        dsimp only at this
        rw [Ne, lEq, this, j0]
        omega
      simp only [List.length_append, List.length_cons] at hr er
      have ef : fnd s.1 c (rows - s.2.1) s.2.1 = s.2.1 + pre.length := by
        have := fnd_skip pre s.2.1 (post.length + 1) a1 hz
        rw [er, this]
        show (if s.1 (15 * (s.2.1 + pre.length) + c) = 0 then _ else _) = _
        rw [if_neg hbt]
      have x1 := RM_exc (by omega) hM
      obtain ⟨y1, y2, y3⟩ := x1
      have hpt : pt.length = n := Nat.succ.inj y1
      have es : rk1 rows c s = (upn (rows - (s.2.1 + 1)) (s.2.1 + 1) (el2 s.2.1 c (exc (s.2.1 + pre.length) s.2.1 s.1 (15 * s.2.1 + c)) s.2.2) (exc (s.2.1 + pre.length) s.2.1 s.1), s.2.1 + 1, exc (s.2.1 + pre.length) s.2.1 s.1 (15 * s.2.1 + c)) := by
        unfold rk1
        rw [ef, if_neg (by omega)]
      rw [es]
      have ol := oth_len (post := post) pre
      have z := RM_rops (t2 := upn (rows - (s.2.1 + 1)) (s.2.1 + 1) (el2 s.2.1 c (exc (s.2.1 + pre.length) s.2.1 s.1 (15 * s.2.1 + c)) s.2.2) (exc (s.2.1 + pre.length) s.2.1 s.1)) (d := s.2.1) (Bv := exc (s.2.1 + pre.length) s.2.1 s.1 (15 * s.2.1 + c)) (Lv := s.2.2) (by omega) y2.1 hl y2.2.1 hls hi hpt y2.2.2 (oth pre post) (s.2.1 + 1) y3 ho (fun i i1 i2 k hk => by
        rw [elim_at (by omega) _ i k hk, if_pos (by omega)])
      have := ih (c + 1) (rops b (ivM l) pt (oth pre post)) (upn (rows - (s.2.1 + 1)) (s.2.1 + 1) (el2 s.2.1 c (exc (s.2.1 + pre.length) s.2.1 s.1 (15 * s.2.1 + c)) s.2.2) (exc (s.2.1 + pre.length) s.2.1 s.1), s.2.1 + 1, exc (s.2.1 + pre.length) s.2.1 s.1 (15 * s.2.1 + c)) b (k + 1) (by omega) (by dsimp only; rw [z.2, ol]; omega) z.1 y2.1 y2.2.1 hlt
      dsimp only at this
      show _ = s.2.1 + siM n (rops b (ivM l) pt (oth pre post)) b (k + 1)
      omega
/-- the rows laid -/
def rowM (N s : Nat) (r : List Nat) : Bool := Nat.beq r.length (pN N) && (List.range (pN N)).all (fun p => Nat.ble 4096 (r.getD p 0) && Nat.ble (r.getD p 0) 4097 && decide (sepB (pA N (nI s)) p = nI (r.getD p 0 - 4096)))
theorem rowM_s {N s : Nat} {r : List Nat} (h : rowM N s r = true) : r.length = pN N ∧ ∀ p, p < pN N → 4096 ≤ r.getD p 0 ∧ r.getD p 0 ≤ 4097 ∧ sepB (pA N (nI s)) p = nI (r.getD p 0 - 4096) := by
  unfold rowM at h
  rw [Bool.and_eq_true, List.all_eq_true] at h
  refine ⟨Nat.eq_of_beq_eq_true h.1, fun p hp => ?_⟩
  have := h.2 p (List.mem_range.mpr hp)
  rw [Bool.and_eq_true, Bool.and_eq_true, decide_eq_true_eq] at this
  exact ⟨Nat.le_of_ble_eq_true this.1.1, Nat.le_of_ble_eq_true this.1.2, this.2⟩
theorem VM_of {g : Nat → Int64} : ∀ (L : List Nat) (k : Nat), (∀ i, i < L.length → L.getD i 0 ≤ 8191 ∧ (g (k + i)).toInt = (L.getD i 0 : Nat) - 4096) → VM k L g
  | [], _, _ => trivial
  | x :: L, k, h => ⟨(h 0 (by simp)).1, (h 0 (by simp)).2, VM_of L (k + 1) (fun i hi => by
      have := h (i + 1) (by simpa using hi)
      rw [show k + 1 + i = k + (i + 1) by omega]
      exact this)⟩
theorem upnL_off {c : Nat} {w : Nat → Int64} : ∀ n k (f : Nat → Int64) q, upn n k (fun p f => vp_updL f (c + p) (w p)) f q = if c + k ≤ q ∧ q < c + k + n then w (q - c) else f q := by
  intro n
  induction n with
  | zero => intro k f q; rw [if_neg (by omega)]; rfl
  | succ n ih =>
    intro k f q
    show upn n (k + 1) _ (vp_updL f (c + k) (w k)) q = _
    rw [ih (k + 1) _ q]
    by_cases h1 : q = c + k
    · subst h1
      rw [if_neg (by omega), if_pos (by omega), updL_s, show c + k - c = k by omega]
    · rw [updL_n h1]
      by_cases h2 : c + k ≤ q ∧ q < c + k + (n + 1)
      · rw [if_pos h2, if_pos (by omega)]
      · rw [if_neg h2, if_neg (by omega)]
theorem mLy_eq {N r s : Nat} {t : Nat → Int64} (h2 : 2 ≤ N) (h6 : N ≤ 6) (hs : s < 32) : mLy N r (nI s) t = upn (pN N) 0 (fun p t => vp_updL t (15 * r + p) (sepB (pA N (nI s)) p).toInt64) t := by
  rw [upn_pairs h2 h6]
  refine dbl_eq (f := fun i j t => mLy1 N r (nI s) i j t) (g := fun i j t => vp_updL t (15 * r + pI N i j) (sepB (pA N (nI s)) (pI N i j)).toInt64) (fun i j t hij hj => ?_)
  unfold mLy1
  rw [sep_pA h6 hs hij hj]
  by_cases q : sepP (nI s) i j
  · rw [if_pos q, if_pos q]; rfl
  · rw [if_neg q, if_neg q]; rfl
def okM (N : Nat) (b : Nat → Int32) : Nat → List Nat → List (List Nat) → Prop
  | _, [], [] => True
  | s, x :: l, r :: rs => (mRt N (nI s) b = 0 ↔ (x = 18 ∨ x = 19)) ∧ rowM N s r = true ∧ s < 32 ∧ okM N b (s + 1) l rs
  | _, _, _ => False
theorem r_mRs {N : Nat} {b : Nat → Int32} (h2 : 2 ≤ N) (h6 : N ≤ 6) : ∀ (l : List Nat) (rs : List (List Nat)) (s r : Nat) (t : Nat → Int64), okM N b s l rs → (upn l.length s (mRs1 N b) (r, t)).1 = r + (selR l rs).length ∧ RM (pN N) 0 r (selR l rs) (upn l.length s (mRs1 N b) (r, t)).2 ∧ ∀ i, i < r → ∀ k, k < 15 → (upn l.length s (mRs1 N b) (r, t)).2 (15 * i + k) = t (15 * i + k)
  | [], [], _, _, _, _ => ⟨rfl, trivial, fun _ _ _ _ => rfl⟩
  | [], _ :: _, _, _, _, h => h.elim
  | _ :: _, [], _, _, _, h => h.elim
  | x :: l, R :: rs, s, r, t, ⟨g1, g2, g3, g4⟩ => by
    have hpn := pN_le h6
    show (upn l.length (s + 1) (mRs1 N b) (mRs1 N b s (r, t))).1 = r + (bR (Nat.beq x 18) (R :: selR l rs) (bR (Nat.beq x 19) (R :: selR l rs) (selR l rs))).length ∧ RM (pN N) 0 r (bR (Nat.beq x 18) (R :: selR l rs) (bR (Nat.beq x 19) (R :: selR l rs) (selR l rs))) (upn l.length (s + 1) (mRs1 N b) (mRs1 N b s (r, t))).2 ∧ ∀ i, i < r → ∀ k, k < 15 → (upn l.length (s + 1) (mRs1 N b) (mRs1 N b s (r, t))).2 (15 * i + k) = t (15 * i + k)
    by_cases q : mRt N (nI s) b = 0
    · have e : bR (Nat.beq x 18) (R :: selR l rs) (bR (Nat.beq x 19) (R :: selR l rs) (selR l rs)) = R :: selR l rs := by
        rcases g1.mp q with rfl | rfl <;> rfl
      have e2 : mRs1 N b s (r, t) = (r + 1, mLy N r (nI s) t) := if_pos q
      rw [e, e2]
      obtain ⟨i1, i2, i3⟩ := r_mRs h2 h6 l rs (s + 1) (r + 1) (mLy N r (nI s) t) g4
      obtain ⟨w1, w2⟩ := rowM_s g2
      have ly : ∀ i k, k < 15 → mLy N r (nI s) t (15 * i + k) = if i = r ∧ k < pN N then (sepB (pA N (nI s)) k).toInt64 else t (15 * i + k) := by
        intro i k hk
        rw [mLy_eq h2 h6 g3, upnL_off]
        by_cases c : i = r ∧ k < pN N
        · obtain ⟨rfl, c⟩ := c
          rw [if_pos (by omega), if_pos ⟨rfl, c⟩, show 15 * i + k - 15 * i = k by omega]
        · rw [if_neg (by omega), if_neg c]
      refine ⟨by rw [i1]; simp; omega, ⟨w1, ?_, i2⟩, fun i hi k hk => ?_⟩
      · refine VM_of R 0 (fun k hk => ?_)
        rw [w1] at hk
        obtain ⟨w3, w4, w5⟩ := w2 k hk
        refine ⟨by omega, ?_⟩
        rw [Nat.zero_add, i3 r (by omega) k (by omega), ly r k (by omega), if_pos ⟨rfl, hk⟩, l_e, w5, nI_e (by omega)]
        omega
      · rw [i3 i (by omega) k hk, ly i k hk, if_neg (by omega)]
    · have e2 : mRs1 N b s (r, t) = (r, t) := if_neg q
      rw [beq_f (fun z => q (g1.mpr (Or.inl z))), beq_f (fun z => q (g1.mpr (Or.inr z))), e2]
      exact r_mRs h2 h6 l rs (s + 1) r t g4
/-- the model's rank is the lists' -/
theorem r_rkM {N : Nat} {b : Nat → Int32} {l : List Nat} {rs : List (List Nat)} {t : Nat → Int64} (h2 : 2 ≤ N) (h6 : N ≤ 6) (hl : l.length = lC N) (h : okM N b 1 l rs) (hlt : siM (pN N) (selR l rs) 4097 0 < 1000) : (rkA N (mRs N b t).1 (mRs N b t).2).2.1 = siM (pN N) (selR l rs) 4097 0 := by
  obtain ⟨i1, i2, -⟩ := r_mRs h2 h6 l rs 1 0 t h
  rw [hl] at i1 i2
  have := r_siM (rows := (mRs N b t).1) (pN_le h6) (pN N) 0 (selR l rs) ((mRs N b t).2, 0, 1) 4097 0 (by omega) (by
    show 0 + _ = (upn (lC N) 1 (mRs1 N b) (0, t)).1
    rw [i1]) i2 (by decide) (show (1 : Int64).toInt = ((4097 : Nat) : Int) - 4096 from rfl) hlt
  unfold rkA
  rw [Nat.add_zero, Nat.zero_add] at this
  exact this
