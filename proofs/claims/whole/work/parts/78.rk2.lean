/-! rank: the class's side -/
theorem upnL_at {g : Nat → Int64 → Int64} : ∀ n k (f : Nat → Int64) q, upn n k (fun p f => vp_updL f p (g p (f p))) f q = if k ≤ q ∧ q < k + n then g q (f q) else f q := by
  intro n
  induction n with
  | zero => intro k f q; rw [if_neg (by omega)]; rfl
  | succ n ih =>
    intro k f q
    show upn n (k + 1) _ (vp_updL f k (g k (f k))) q = _
    rw [ih (k + 1) _ q]
    by_cases h1 : q = k
    · subst h1
      rw [if_neg (by omega), if_pos (by omega), updL_s]
    · rw [updL_n h1]
      by_cases h2 : k ≤ q ∧ q < k + (n + 1)
      · rw [if_pos h2, if_pos (by omega)]
      · rw [if_neg h2, if_neg (by omega)]
theorem j0 : (0 : Int64).toInt = 0 := rfl
theorem jLt {x y : Int64} : x < y ↔ x.toInt < y.toInt := Int64.lt_iff_toInt_lt
theorem xor_neg {x y : Int64} (hy : 0 ≤ y.toInt) : (x ^^^ y).toInt < 0 ↔ x.toInt < 0 := by
  have e : ∀ z : Int64, z.toInt < 0 ↔ z.toBitVec.msb = true := by
    intro z
    rw [BitVec.msb_eq_toInt, decide_eq_true_eq]
    exact Iff.rfl
  have hy2 : y.toBitVec.msb = false := by
    cases h : y.toBitVec.msb with
    | false => rfl
    | true => have := (e y).mpr h; omega
  rw [e, e, Int64.toBitVec_xor, BitVec.msb_xor, hy2, Bool.xor_false]
theorem fMod_t {x : Int64} (h1 : -1000006000009 ≤ x.toInt) (h2 : x.toInt ≤ 1000006000009) : (fMod x 1000003).toInt = x.toInt % 1000003 := by
  have hP : (1000003 : Int64).toInt = 1000003 := rfl
  have hd : (x / 1000003).toInt = x.toInt.tdiv 1000003 := by rw [Int64.toInt_div_of_ne_right _ _ (by decide), hP]
  have hdm := Int.tmod_add_tdiv_mul x.toInt 1000003
  have hm1 := Int.tmod_lt_of_pos x.toInt (show (0 : Int) < 1000003 by decide)
  have hm2 := Int.lt_tmod_of_pos x.toInt (show (0 : Int) < 1000003 by decide)
  have hr : (x - x / 1000003 * 1000003).toInt = x.toInt.tmod 1000003 := by
    have hm : (x / 1000003 * 1000003).toInt = x.toInt.tdiv 1000003 * 1000003 := by rw [Int64.toInt_mul, hd, hP, bm64 (by omega) (by omega)]
    rw [Int64.toInt_sub, hm, bm64 (by omega) (by omega)]
    omega
  have hc : 0 ≤ lg_cmp (x ^^^ 1000003) 0 ↔ 0 ≤ x.toInt := by
    have n1 := xor_neg (x := x) (y := 1000003) (by decide)
    have : lg_cmp (x ^^^ 1000003) 0 < 0 ↔ (x ^^^ 1000003).toInt < 0 := by rw [lcLt, j0]
    rw [iLe, i0]
    rw [iLt, i0] at this
    omega
  have hz : lg_cmp (x - x / 1000003 * 1000003) 0 = 0 ↔ x.toInt.tmod 1000003 = 0 := by rw [lc0, lEq, hr, j0]
  unfold fMod
  by_cases c1 : 0 ≤ x.toInt
  · rw [if_pos (Or.inl (hc.mpr c1)), hr]
    have := Int.tmod_nonneg 1000003 c1
    omega
  · by_cases c2 : x.toInt.tmod 1000003 = 0
    · rw [if_pos (Or.inr (hz.mpr c2)), hr]
      omega
    · rw [if_neg (fun q => q.elim (fun q => c1 (hc.mp q)) (fun q => c2 (hz.mp q))), Int64.toInt_add, hr, hP, bm64 (by omega) (by omega)]
      have : x.toInt.tmod 1000003 ≤ 0 := by
        have := Int.tmod_nonneg 1000003 (show 0 ≤ -x.toInt by omega)
        rw [Int.neg_tmod] at this
        omega
      omega
/-- a list of naturals tells a row of longs, from k on -/
def VC : Nat → List Nat → (Nat → Int64) → Prop
  | _, [], _ => True
  | k, x :: L, g => x < 1000003 ∧ (g k).toInt = x ∧ VC (k + 1) L g
def BC : Nat → List (List Nat) → (Nat → Nat → Int64) → (Nat → Int32) → Prop
  | _, [], _, _ => True
  | c, B :: Bs, ba, ha => ((B = [] ∧ ha c = 0) ∨ (∃ y g, B = y :: g ∧ ¬ ha c = 0 ∧ g.length = Bs.length ∧ VC c B (ba c))) ∧ BC (c + 1) Bs ba ha
theorem VC.congr {g g' : Nat → Int64} : ∀ (L : List Nat) (k : Nat), VC k L g → (∀ d, k ≤ d → d < k + L.length → g' d = g d) → VC k L g'
  | [], _, _, _ => trivial
  | x :: L, k, h, e => ⟨h.1, by rw [e k (Nat.le_refl _) (by simp)]; exact h.2.1, VC.congr L (k + 1) h.2.2 (fun d h1 h2 => e d (by omega) (by simp; omega))⟩
theorem BC.congr {ba ba' : Nat → Nat → Int64} {ha ha' : Nat → Int32} : ∀ (L : List (List Nat)) (c : Nat), BC c L ba ha → (∀ d, c ≤ d → ba' d = ba d) → (∀ d, c ≤ d → ha' d = ha d) → BC c L ba' ha'
  | [], _, _, _, _ => trivial
  | B :: Bs, c, h, e1, e2 => by
    refine ⟨?_, BC.congr Bs (c + 1) h.2 (fun d hd => e1 d (by omega)) (fun d hd => e2 d (by omega))⟩
    rw [e1 c (Nat.le_refl _), e2 c (Nat.le_refl _)]
    exact h.1
theorem clr_len {x y : Nat} : ∀ (f g : List Nat), f.length = g.length → (clr x y f g).length = f.length
  | [], [], _ => rfl
  | [], _ :: _, h => by simp at h
  | _ :: _, [], h => by simp at h
  | a :: f, b :: g, h => by
    show (clr x y f g).length + 1 = f.length + 1
    rw [clr_len f g (by simpa using h)]
theorem mul_bd {a y : Nat} (ha : a < 1000003) (hy : y < 1000003) : a * y ≤ 1000004000004 := by
  have := Nat.mul_le_mul (show a ≤ 1000002 by omega) (show y ≤ 1000002 by omega)
  omega
theorem one_clr {a b x y : Nat} {A B X Y : Int64} (ha : a < 1000003) (hb : b < 1000003) (hx : x < 1000003) (hy : y < 1000003) (eA : A.toInt = a) (eB : B.toInt = b) (eX : X.toInt = x) (eY : Y.toInt = y) : (fMod (A * Y - B * X) 1000003).toInt = (Nat.mod (Nat.sub (Nat.add (Nat.mul a y) 1000006000009) (Nat.mul b x)) 1000003 : Nat) := by
  have h1 := mul_bd ha hy
  have h2 := mul_bd hb hx
  have e1 : (A * Y).toInt = ((a * y : Nat) : Int) := by
    rw [Int64.toInt_mul, eA, eY, ← Int.natCast_mul, bm64 (by omega) (by omega)]
  have e2 : (B * X).toInt = ((b * x : Nat) : Int) := by
    rw [Int64.toInt_mul, eB, eX, ← Int.natCast_mul, bm64 (by omega) (by omega)]
  have e3 : (A * Y - B * X).toInt = ((a * y : Nat) : Int) - ((b * x : Nat) : Int) := by
    rw [Int64.toInt_sub, e1, e2, bm64 (by omega) (by omega)]
  rw [fMod_t (by rw [e3]; omega) (by rw [e3]; omega), e3]
  show _ = (((a * y + 1000006000009 - b * x) % 1000003 : Nat) : Int)
  generalize a * y = p at *
  generalize b * x = q at *
  omega
theorem VC_clr {x y : Nat} {X Y : Int64} {fr bs : Nat → Int64} (hx : x < 1000003) (hy : y < 1000003) (eX : X.toInt = x) (eY : Y.toInt = y) : ∀ (f g : List Nat) (k : Nat), f.length = g.length → VC k f fr → VC k g bs → VC k (clr x y f g) (fun d => fMod (fr d * Y - bs d * X) 1000003)
  | [], [], _, _, _, _ => trivial
  | [], _ :: _, _, h, _, _ => by simp at h
  | _ :: _, [], _, h, _, _ => by simp at h
  | a :: f, b :: g, k, h, h1, h2 => ⟨Nat.mod_lt _ (by decide), one_clr h1.1 h2.1 hx hy h1.2.1 h2.2.1 eX eY, VC_clr hx hy eX eY f g (k + 1) (by simpa using h) h1.2.2 h2.2.2⟩
theorem ccl_at {C c q : Nat} {bs fr : Nat → Int64} (h1 : c ≤ q) (h2 : q < C) : ccl C c bs fr q = fMod (fr q * bs c - bs q * fr c) 1000003 := by
  have := upnL_at (g := fun d v => fMod (v * bs c - bs d * fr c) 1000003) (C - c) c fr q
  rw [if_pos (by omega)] at this
  exact this
theorem BC.len {ba : Nat → Nat → Int64} {ha : Nat → Int32} {c : Nat} {B : List Nat} {Bs : List (List Nat)} (h : BC c (B :: Bs) ba ha) : B = [] ∨ B.length = Bs.length + 1 := by
  rcases h.1 with ⟨e, _⟩ | ⟨y, g, e, _, hl, _⟩
  · exact Or.inl e
  · right; rw [e]; simp [hl]
theorem cpL_at {n q : Nat} {f g : Nat → Int64} (h : q < n) : va_cpy f g 0 0 n q = f q := by
  show (if 0 ≤ q ∧ q < 0 + n then f (0 + (q - 0)) else g q) = f q
  rw [if_pos (by omega)]
  simp
theorem adS_adL {C : Nat} : ∀ n c (Bs : List (List Nat)) (f : List Nat) (w : RS), Bs.length = n → f.length = n → c + n = C → BC c Bs w.1 w.2.2.1 → VC c f w.2.1 → ∃ R q, (∀ k, adL Bs f k = k R q) ∧ R.length = n ∧ BC c R (adS C n c w).1 (adS C n c w).2.2.1 ∧ (adS C n c w).2.2.2 = (bR q (Nat.add w.2.2.2 1) w.2.2.2) ∧ (∀ i, i < c → (adS C n c w).1 i = w.1 i ∧ (adS C n c w).2.2.1 i = w.2.2.1 i) := by
  intro n
  induction n with
  | zero =>
    intro c Bs f w h1 h2 h3 h4 h5
    obtain rfl := List.length_eq_zero_iff.mp h1
    exact ⟨[], false, fun k => rfl, rfl, trivial, rfl, fun i _ => ⟨rfl, rfl⟩⟩
  | succ n ih =>
    intro c Bs f w h1 h2 h3 h4 h5
    match Bs, f, h1, h2, h4, h5 with
    | B :: Bs, x :: f, h1, h2, h4, h5 =>
      have l1 : Bs.length = n := by simpa using h1
      have l2 : f.length = n := by simpa using h2
      obtain ⟨v1, v2, v3⟩ := h5
      by_cases hx : x = 0
      · subst hx
        have z : w.2.1 c = 0 := by rw [lEq, v2]; rfl
        have e : adS C (n + 1) c w = adS C n (c + 1) w := by
          conv => lhs; unfold adS
          rw [if_pos z]
        obtain ⟨R, q, r1, r2, r3, r4, r5⟩ := ih (c + 1) Bs f w l1 l2 (by omega) h4.2 v3
        rw [e]
        refine ⟨B :: R, q, fun k => r1 _, by simp [r2], ⟨?_, r3⟩, r4, fun i hi => r5 i (by omega)⟩
        rw [(r5 c (by omega)).1, (r5 c (by omega)).2, r2, ← l1]
        exact h4.1
      · have z : ¬ w.2.1 c = 0 := by rw [lEq, v2, j0]; omega
        have bx : Nat.beq x 0 = false := by
          cases x with
          | zero => exact absurd rfl hx
          | succ x => rfl
        rcases h4.1 with ⟨rfl, hc⟩ | ⟨y, g, rfl, hc, hg, hv⟩
        · have e : adS C (n + 1) c w = (va_up w.1 c (va_cpy w.2.1 (w.1 c) 0 0 C), w.2.1, upd w.2.2.1 c (nI 1), w.2.2.2 + 1) := by
            conv => lhs; unfold adS
            rw [if_neg z, if_pos hc]
          rw [e]
          refine ⟨(x :: f) :: Bs, true, fun k => ?_, by simp [l1], ⟨Or.inr ⟨x, f, rfl, ?_, by rw [l1, l2], ?_⟩, ?_⟩, rfl, fun i hi => ⟨up_n (by omega), upd_n (by omega)⟩⟩
          · show bR (Nat.beq x 0) _ _ = _
            rw [bx]
          · dsimp only
            rw [upd_s]; decide
          · dsimp only
            rw [up_s]
            exact VC.congr (x :: f) c ⟨v1, v2, v3⟩ (fun d h6 h7 => cpL_at (by simp at h7; omega))
          · exact h4.2.congr _ _ (fun d hd => up_n (by omega)) (fun d hd => upd_n (by omega))
        · have e : adS C (n + 1) c w = adS C n (c + 1) (w.1, ccl C c (w.1 c) w.2.1, w.2.2) := by
            conv => lhs; unfold adS
            rw [if_neg z, if_neg hc]
          obtain ⟨u1, u2, u3⟩ := hv
          obtain ⟨R, q, r1, r2, r3, r4, r5⟩ := ih (c + 1) Bs (clr x y f g) (w.1, ccl C c (w.1 c) w.2.1, w.2.2) l1 (by rw [clr_len f g (by omega)]; exact l2) (by omega) h4.2 (by
            refine (VC_clr (fr := w.2.1) (bs := w.1 c) v1 u1 v2 u2 f g (c + 1) (by omega) v3 u3).congr _ _ (fun d h6 h7 => ?_)
            rw [clr_len f g (by omega)] at h7
            exact ccl_at (by omega) (by omega))
          rw [e]
          refine ⟨(y :: g) :: R, q, fun k => ?_, by simp [r2], ⟨?_, r3⟩, r4, fun i hi => r5 i (by omega)⟩
          · show bR (Nat.beq x 0) _ _ = _
            rw [bx]
            exact r1 _
          · rw [(r5 c (by omega)).1, (r5 c (by omega)).2, r2, ← l1]
            exact Or.inr ⟨y, g, rfl, hc, hg, u1, u2, u3⟩
/-- a row of 0 and 1 tells the pairs that a cut separates -/
def rowC (N s : Nat) (r : List Nat) : Bool := Nat.beq r.length (pN N) && (List.range (pN N)).all (fun p => Nat.ble (r.getD p 0) 1 && decide (sepB (pA N (nI s)) p = nI (r.getD p 0)))
theorem VC_of {g : Nat → Int64} : ∀ (L : List Nat) (k : Nat), (∀ i, i < L.length → L.getD i 0 < 1000003 ∧ (g (k + i)).toInt = (L.getD i 0 : Nat)) → VC k L g
  | [], _, _ => trivial
  | x :: L, k, h => ⟨(h 0 (by simp)).1, (h 0 (by simp)).2, VC_of L (k + 1) (fun i hi => by
      have := h (i + 1) (by simpa using hi)
      rw [show k + 1 + i = k + (i + 1) by omega]
      exact this)⟩
theorem rowC_s {N s : Nat} {r : List Nat} (h : rowC N s r = true) : r.length = pN N ∧ ∀ p, p < pN N → r.getD p 0 ≤ 1 ∧ sepB (pA N (nI s)) p = nI (r.getD p 0) := by
  unfold rowC at h
  rw [Bool.and_eq_true, List.all_eq_true] at h
  refine ⟨Nat.eq_of_beq_eq_true h.1, fun p hp => ?_⟩
  have := h.2 p (List.mem_range.mpr hp)
  rw [Bool.and_eq_true, decide_eq_true_eq] at this
  exact ⟨Nat.le_of_ble_eq_true this.1, this.2⟩
theorem frB_at {C p : Nat} {bits : Int32} {fr : Nat → Int64} (h : p < C) : frB C bits fr p = (sepB bits p).toInt64 := by
  have := upnL_at (g := fun c _ => (sepB bits c).toInt64) C 0 fr p
  rw [if_pos (by omega)] at this
  exact this
theorem VC_row {N s : Nat} {r : List Nat} {fr : Nat → Int64} (h : rowC N s r = true) : VC 0 r (frB (pN N) (pA N (nI s)) fr) := by
  obtain ⟨h1, h2⟩ := rowC_s h
  refine VC_of r 0 (fun i hi => ?_)
  rw [h1] at hi
  obtain ⟨h3, h4⟩ := h2 i hi
  refine ⟨by omega, ?_⟩
  rw [Nat.zero_add, frB_at hi, l_e, h4, nI_e (by omega)]
def okL (N : Nat) (nu : Nat → Int32) : Nat → List Nat → List (List Nat) → Prop
  | _, [], [] => True
  | s, x :: l, r :: rs => (isRt N nu (nI s) ↔ (x = 18 ∨ x = 19)) ∧ rowC N s r = true ∧ okL N nu (s + 1) l rs
  | _, _, _ => False
theorem beq_f {x y : Nat} (h : ¬ x = y) : Nat.beq x y = false := by
  cases e : Nat.beq x y with
  | false => rfl
  | true => exact absurd (Nat.eq_of_beq_eq_true e) h
theorem r_siC {N : Nat} {nu : Nat → Int32} : ∀ (l : List Nat) (rs : List (List Nat)) (s : Nat) (Bs : List (List Nat)) (w : RS), okL N nu s l rs → Bs.length = pN N → BC 0 Bs w.1 w.2.2.1 → (upn l.length s (xRr1 N N nu) w).2.2.2 = siC (selR l rs) Bs w.2.2.2
  | [], [], _, _, _, _, _, _ => rfl
  | [], _ :: _, _, _, _, h, _, _ => h.elim
  | _ :: _, [], _, _, _, h, _, _ => h.elim
  | x :: l, r :: rs, s, Bs, w, ⟨h1, h2, h3⟩, hl, hB => by
    show (upn l.length (s + 1) (xRr1 N N nu) (xRr1 N N nu s w)).2.2.2 = siC (bR (Nat.beq x 18) (r :: selR l rs) (bR (Nat.beq x 19) (r :: selR l rs) (selR l rs))) Bs w.2.2.2
    unfold xRr1
    by_cases q : isRt N nu (nI s)
    · rw [if_pos q]
      have e : bR (Nat.beq x 18) (r :: selR l rs) (bR (Nat.beq x 19) (r :: selR l rs) (selR l rs)) = r :: selR l rs := by
        rcases h1.mp q with rfl | rfl <;> rfl
      rw [e]
      obtain ⟨R, b, a1, a2, a3, a4, -⟩ := adS_adL (C := pN N) (pN N) 0 Bs r (w.1, frB (pN N) (pA N (nI s)) w.2.1, w.2.2) hl (rowC_s h2).1 (by omega) hB (VC_row h2)
      show _ = adL Bs r (fun R q => siC (selR l rs) R (bR q (Nat.add w.2.2.2 1) w.2.2.2))
      rw [a1]
      have := r_siC l rs (s + 1) R (adB (pN N) (pA N (nI s)) w) h3 a2 a3
      rw [show bR b (Nat.add w.2.2.2 1) w.2.2.2 = (adB (pN N) (pA N (nI s)) w).2.2.2 from a4.symm]
      exact this
    · rw [if_neg q, beq_f (fun z => q (h1.mpr (Or.inl z))), beq_f (fun z => q (h1.mpr (Or.inr z)))]
      exact r_siC l rs (s + 1) Bs w h3 hl hB
theorem BC_0 {ba : Nat → Nat → Int64} {ha : Nat → Int32} : ∀ n c, (∀ i, c ≤ i → i < c + n → ha i = 0) → BC c (repL n) ba ha ∧ (repL n).length = n
  | 0, _, _ => ⟨trivial, rfl⟩
  | n + 1, c, h => ⟨⟨Or.inl ⟨rfl, h c (Nat.le_refl _) (by omega)⟩, (BC_0 n (c + 1) (fun i a b => h i (by omega) (by omega))).1⟩, by
    show (repL n).length + 1 = n + 1
    rw [(BC_0 (ba := ba) (ha := ha) n (c + 1) (fun i a b => h i (by omega) (by omega))).2]⟩
/-- the class's rank is the lists' -/
theorem r_rkC {N : Nat} {nu : Nat → Int32} {l : List Nat} {rs : List (List Nat)} {w : RS} (h6 : N ≤ 6) (hl : l.length = lC N) (h : okL N nu 1 l rs) : (xRr N N nu w).2.2.2 = siC (selR l rs) (repL (pN N)) 0 := by
  have hp := pN_le h6
  obtain ⟨b1, b2⟩ := BC_0 (ba := w.1) (ha := zf 15 w.2.2.1) (pN N) 0 (fun i _ hi => zf_at (by omega))
  have := r_siC l rs 1 (repL (pN N)) (w.1, w.2.1, zf 15 w.2.2.1, 0) h b2 b1
  rw [hl] at this
  exact this
