/-! pairs: wallOf, value, root, switched -/
section HO3
variable {G : GT} {x y w : Int32} {A : XA} {B : XB} {C : XC} {I : XI} {H : XH} {T : XT} {D : Nat} {z z' : Nat → Int32} {a a' : Nat → Nat → Int32} {sz : Nat → Nat}
theorem nI_leN {m n : Nat} (hm : m ≤ 1000) (hn : n ≤ 1000) : nI m ≤ nI n ↔ m ≤ n := by
  rw [iLe, nI_e (by omega), nI_e (by omega)]
  omega
theorem mHw_at {N h q : Nat} {b c : Nat → Int32} : upn N 0 (fun p c => upd c (20 * h + p) (b p)) c q = if 20 * h ≤ q ∧ q < 20 * h + N then b (q - 20 * h) else c q := by
  rw [upn_sh]
  rfl
/-- a wall comes into a holder -/
theorem Rel.hw {k : Nat} {f g r r' : Nat → Int32} (h : Rel A B C I H T D z a) (hk : k < 6) (hf : ∀ p, p < A.1 → f p = r p) (hw : isW A.1 f) : Rel A B C I (xHw H k A.1 f) T D z (mHw A.1 k r (va_up a 98 r')) ∧ mWid A.1 r = wWid A.1 (va_cpy f g 0 0 A.1) := by
  obtain ⟨k1, k2, -, k4, k5⟩ := h.1
  obtain ⟨sz, r5⟩ := h.2.2.2.2.1
  have e98 : ∀ q, q ≠ 98 → (va_up a 98 r') q = a q := fun q hq => up_n hq
  constructor
  · refine h.ho (r5.put (s := A.1) (by decide) (by omega) (fun j _ => ?_) (fun j _ => ?_) (fun q hq => ?_) (fun _ => ⟨k1, k2⟩) (fun q => by omega) (fun _ => ⟨rfl, rfl, hw.congr (fun p hp => (cpy_at hp).symm)⟩) (fun q => by omega) (fun _ j hj => ?_)) (fun q _ _ _ => ?_) rfl rfl
    · unfold mHw
      rw [up_n (by decide), up_n (by decide), up_s, upd_if, e98 91 (by decide)]
    · unfold mHw
      rw [up_n (by decide), up_s, upd_if, e98 92 (by decide)]
    · unfold mHw
      rw [up_s, mHw_at, if_neg (by omega), e98 93 (by decide)]
    · unfold mHw
      rw [up_s, mHw_at, if_pos (by omega), cpy_at hj, hf j hj, show 20 * k + j - 20 * k = j by omega]
    · unfold mHw
      rw [up_n (by omega), up_n (by omega), up_n (by omega), e98 q (by omega)]
  · exact (wid_eq (fun p hp => (cpy_at hp).trans (hf p hp))).symm
theorem pr_wallOf : PrI G mX9_wallOf mX10_wallOf 3 4 [.int x, .int y] := by
  intro σ ⟨A, B, C, I, H, T, D, z, a, tb, hX, hM, hR⟩
  obtain ⟨k1, k2, -, k4, k5⟩ := hR.1
  obtain ⟨sz, r5⟩ := hR.2.2.2.2.1
  refine ConP.mono (x_wallOf hX) (fun v σ1 h => ?_)
  rcases h with ⟨hc, rfl, hX1, hh⟩ | ⟨k, f, rfl, hk, rfl, hf, h⟩
  · refine stI hh hM (ConP.mono (m_wallOf k1 k2) (fun v' σ2 h' => ?_))
    rcases h' with ⟨_, h'⟩ | ⟨k, f, rfl, hk, rfl, hf, _⟩
    · exact fiI h' hX1 rfl rfl rfl hR
    · exact absurd ⟨hIn hk, hIn hf⟩ hc
  · have e3 := xRk_0 r5 hf (c := 3) (by decide) (by decide)
    have e4 := xRk_val r5 hf (c := 3) (by decide)
    obtain ⟨o1, o2, o3, o4, o5⟩ := r5.1 f hf
    obtain ⟨c1, c2, c3, c4⟩ := r5.2 f hf
    have z0 : a 91 f = 0 ↔ H.1 f = 0 := by rw [o1]; exact nI_kd o2 (by decide)
    have z3 : a 91 f = nI 3 ↔ H.1 f = 3 := by rw [o1]; exact nI_kd o2 (by decide)
    have ld : H.1 f = 3 → A.1 ≤ H.2.2.1 f → ∀ p, p < A.1 → H.2.2.2 f p = mLd A.1 f (a 93) (a 98) p := by
      intro q q2 p hp
      rw [mLd_at, if_pos hp]
      exact c4 (by omega) p (by omega)
    have hle : nI A.1 ≤ a 92 f ↔ A.1 ≤ sz f := by rw [o3]; exact nI_leN (by omega) (by omega)
    rcases h with ⟨hr, rfl, hX1, hh⟩ | ⟨hr, hn, rfl, hX1, hh⟩ | ⟨hr, hn, rfl, hX1, hh⟩
    · refine stI hh hM (ConP.mono (m_wallOf k1 k2) (fun v' σ2 h' => ?_))
      rcases h' with ⟨q, _⟩ | ⟨k', f', e, _, e', _, h'⟩
      · exact absurd ⟨hIn hk, hIn hf⟩ q
      · have := nI_inj6 (by omega) (by omega) e
        subst this
        have := nI_inj6 (by omega) (by omega) e'
        subst this
        rw [e3] at hr
        rcases h' with ⟨q, h'⟩ | ⟨q1, q2, h'⟩ | ⟨q, _⟩ | ⟨q, _⟩ | ⟨q, _⟩
        · exact fiI h' hX1 (by rw [e4, if_pos (z0.mp q)]) rfl rfl hR
        · exact fiI h' hX1 (by rw [e4, if_neg (fun q => q1 (z0.mpr q)), if_neg hr]) rfl rfl hR
        · exact absurd (z3.mp q) hr
        · exact absurd (z3.mp q) hr
        · exact absurd (z3.mp q) hr
    · refine stI hh hM (ConP.mono (m_wallOf k1 k2) (fun v' σ2 h' => ?_))
      have hr' := e3.mp hr
      rcases h' with ⟨q, _⟩ | ⟨k', f', e, _, e', _, h'⟩
      · exact absurd ⟨hIn hk, hIn hf⟩ q
      · have := nI_inj6 (by omega) (by omega) e
        subst this
        have := nI_inj6 (by omega) (by omega) e'
        subst this
        rcases h' with ⟨q, _⟩ | ⟨_, q2, _⟩ | ⟨_, q, h'⟩ | ⟨_, q, q2, h'⟩ | ⟨_, q, q2, _⟩
        · have := z0.mp q; omega
        · exact absurd (z3.mpr hr') q2
        · exact fiI h' hX1 rfl rfl rfl hR
        · exact fiI h' hX1 rfl rfl rfl (hR.free (fun q x y => up_n (by omega)) rfl rfl)
        · have q' : A.1 ≤ H.2.2.1 f := by rw [c3 hr']; exact hle.mp q
          have := q2.congr (fun p hp => (ld hr' q' p hp).symm)
          exact absurd ⟨q', this.1, this.2⟩ hn
    · refine stI hh hM (ConP.mono (m_wallOf k1 k2) (fun v' σ2 h' => ?_))
      have hr' := e3.mp hr
      obtain ⟨hn1, hn2⟩ := hn
      have hw := isW.congr (ld hr' hn1) hn2
      have hle' := hn1
      rw [c3 hr'] at hle'
      rcases h' with ⟨q, _⟩ | ⟨k', f', e, _, e', _, h'⟩
      · exact absurd ⟨hIn hk, hIn hf⟩ q
      · have := nI_inj6 (by omega) (by omega) e
        subst this
        have := nI_inj6 (by omega) (by omega) e'
        subst this
        rcases h' with ⟨q, _⟩ | ⟨_, q2, _⟩ | ⟨_, q, _⟩ | ⟨_, _, q2, _⟩ | ⟨_, _, _, h'⟩
        · have := z0.mp q; omega
        · exact absurd (z3.mpr hr') q2
        · exact absurd (hle.mpr hle') q
        · exact absurd hw q2
        · have d := hR.hw (g := H.2.2.2 k) (r' := mLd A.1 f (a 93) (a 98)) hk (ld hr' hn1) hn2
          exact fiI h' hX1 d.2 rfl rfl d.1
theorem r_bar (h5 : HOR H sz a) {k : Nat} (hk : k < 6) (h6 : A.1 ≤ 6) : xRw A H k = mBar A.1 k a ∧ (mBar A.1 k a = 0 → H.1 k = 2 ∧ sz k = A.1 ∧ H.2.2.1 k = A.1 ∧ isW A.1 (H.2.2.2 k) ∧ ∀ p, p < A.1 → H.2.2.2 k p = mLd A.1 k (a 93) (a 98) p) := by
  have e2 := xRk_0 h5 hk (c := 2) (by decide) (by decide)
  have e4 := xRk_val h5 hk (c := 2) (by decide)
  obtain ⟨o1, o2, o3, o4, o5⟩ := h5.1 k hk
  obtain ⟨c1, c2, c3, c4⟩ := h5.2 k hk
  have z0 : a 91 k = 0 ↔ H.1 k = 0 := by rw [o1]; exact nI_kd o2 (by decide)
  have z2 : a 91 k = nI 2 ↔ H.1 k = 2 := by rw [o1]; exact nI_kd o2 (by decide)
  have zs : a 92 k = nI A.1 ↔ sz k = A.1 := by
    rw [o3]
    exact ⟨fun q => nI_inj6 (by omega) (by omega) q, fun q => by rw [q]⟩
  unfold xRw mBar
  by_cases h0 : H.1 k = 0
  · rw [if_neg (fun q => by have := e2.mp q; omega), e4, if_pos h0, if_pos (z0.mpr h0)]
    exact ⟨rfl, fun q => absurd q (by decide)⟩
  · rw [if_neg (fun q => h0 (z0.mp q))]
    by_cases h2 : H.1 k = 2
    · obtain ⟨d1, d2, d3⟩ := c2 h2
      rw [if_pos (e2.mpr h2), if_pos (z2.mpr h2), d1]
      by_cases hs : sz k = A.1
      · rw [if_pos (by rw [hs]), if_pos (zs.mpr hs)]
        refine ⟨rfl, fun _ => ⟨h2, hs, by rw [d2, hs], by rw [← hs]; exact d3, fun p hp => ?_⟩⟩
        rw [mLd_at, if_pos hp]
        exact c4 h0 p (by omega)
      · rw [if_neg (fun q => hs (nI_inj6 (by omega) (by omega) q)), if_neg (fun q => hs (zs.mp q))]
        exact ⟨rfl, fun q => absurd q (by decide)⟩
    · rw [if_neg (fun q => h2 (e2.mp q)), if_neg (fun q => h2 (z2.mp q)), e4, if_neg h0, if_neg h2]
      exact ⟨rfl, fun q => absurd q (by decide)⟩
theorem HOR.s1 (h5 : HOR H sz a) : ∀ h, h < 6 → xRk H h 2 = 0 → 1 ≤ H.2.2.1 h := by
  intro k hk q
  have e := (xRk_0 h5 hk (c := 2) (by decide) (by decide)).mp q
  obtain ⟨o1, o2, o3, o4, o5⟩ := h5.1 k hk
  have := o5 (Or.inr e)
  rw [((h5.2 k hk).2.1 e).2.1]
  omega
theorem pr_value : PrL G mX9_value mX10_value 4 3 [.int x] := by
  intro σ ⟨A, B, C, I, H, T, D, z, a, tb, hX, hM, hR⟩
  obtain ⟨k1, k2, -, k4, k5⟩ := hR.1
  obtain ⟨sz, r5⟩ := hR.2.2.2.2.1
  refine ConP.mono (x_value hX) (fun v σ1 h => ?_)
  rcases h with ⟨hc, rfl, hX1, hh⟩ | ⟨k, rfl, hk, h⟩
  · refine stL hh hM (ConP.mono (m_value k1 k2) (fun v' σ2 h' => ?_))
    rcases h' with ⟨_, h'⟩ | ⟨k, rfl, hk, _⟩
    · exact fiL h' hX1 rfl rfl rfl hR
    · exact absurd (hIn hk) hc
  · obtain ⟨b1, b2⟩ := r_bar (A := A) r5 hk k2
    rw [b1] at h
    rcases h with ⟨hr, rfl, hX1, hh⟩ | ⟨hr, rfl, hX1, hh⟩
    · refine stL hh hM (ConP.mono (m_value k1 k2) (fun v' σ2 h' => ?_))
      rcases h' with ⟨q, _⟩ | ⟨k', e, _, h'⟩
      · exact absurd (hIn hk) q
      · have := nI_inj6 (by omega) (by omega) e
        subst this
        rcases h' with ⟨_, h'⟩ | ⟨q, _⟩
        · exact fiL h' hX1 rfl rfl rfl hR
        · exact absurd q hr
    · refine stL hh hM (ConP.mono (m_value k1 k2) (fun v' σ2 h' => ?_))
      rcases h' with ⟨q, _⟩ | ⟨k', e, _, h'⟩
      · exact absurd (hIn hk) q
      · have := nI_inj6 (by omega) (by omega) e
        subst this
        rcases h' with ⟨q, _⟩ | ⟨_, h'⟩
        · exact absurd hr q
        · refine fiL h' hX1 ?_ rfl rfl (hR.free (fun q x y => up_n (by omega)) rfl rfl)
          rw [r_value (b := H.2.2.2 k) (b' := mLd A.1 k (a 93) (a 98)) (b2 hr).2.2.2.2 k5]
theorem pr_root : PrI G mX9_root mX10_root 4 4 [.int x, .int y] := by
  intro σ ⟨A, B, C, I, H, T, D, z, a, tb, hX, hM, hR⟩
  obtain ⟨k1, k2, -, k4, k5⟩ := hR.1
  have hl := lC_le k1 k2
  obtain ⟨sz, r5⟩ := hR.2.2.2.2.1
  refine ConP.mono (x_root hX r5.s1) (fun v σ1 h => ?_)
  rcases h with ⟨hc, rfl, hX1, hh⟩ | ⟨k, rfl, hk, hy, h⟩
  · refine stI hh hM (ConP.mono (m_root k1 k2) (fun v' σ2 h' => ?_))
    rcases h' with ⟨_, h'⟩ | ⟨k, rfl, hk, hy, _⟩
    · exact fiI h' hX1 rfl rfl rfl hR
    · exact absurd ⟨hIn hk, hy⟩ hc
  · obtain ⟨b1, b2⟩ := r_bar (A := A) r5 hk k2
    rw [b1] at h
    rcases h with ⟨hr, rfl, hX1, hh⟩ | ⟨hr, rfl, hX1, hh⟩
    · refine stI hh hM (ConP.mono (m_root k1 k2) (fun v' σ2 h' => ?_))
      rcases h' with ⟨q, _⟩ | ⟨k', e, _, _, h'⟩
      · exact absurd ⟨hIn hk, hy⟩ q
      · have := nI_inj6 (by omega) (by omega) e
        subst this
        rcases h' with ⟨_, h'⟩ | ⟨q, _⟩
        · exact fiI h' hX1 rfl rfl rfl hR
        · exact absurd q hr
    · refine stI hh hM (ConP.mono (m_root k1 k2) (fun v' σ2 h' => ?_))
      rcases h' with ⟨q, _⟩ | ⟨k', e, _, _, h'⟩
      · exact absurd ⟨hIn hk, hy⟩ q
      · have := nI_inj6 (by omega) (by omega) e
        subst this
        rcases h' with ⟨q, _⟩ | ⟨_, h'⟩
        · exact absurd hr q
        · refine fiI h' hX1 ?_ rfl rfl (hR.free (fun q x y => up_n (by omega)) rfl rfl)
          obtain ⟨d1, d2, d3, d4, d5⟩ := b2 hr
          rw [d3, r_root (by omega) k2 d4 d5 (lC A.1) 1 (nI 0) (by omega), show y - nI 0 = y from Int32.sub_zero y]
          cases rtF A.1 (mLd A.1 k (a 93) (a 98)) (lC A.1) 1 y <;> rfl
theorem swS_eq {N : Nat} {x : Int32} {b : Nat → Int32} : swS N x b = sg N 0 (inP x b) := by
  unfold swS
  have e : (fun p s => s + (if hasP x p then b p else nI 0)) = fun p (s : Int32) => s + inP x b p := rfl
  rw [e, upn_sg, show nI 0 = (0 : Int32) from rfl, Int32.zero_add]
theorem swC_val {N : Nat} {x : Int32} {b : Nat → Int32} : ∃ c, c ≤ N ∧ swC N x b = nI c ∧ (c = 0 ↔ ∀ p, p < N → ¬ (hasP x p ∧ ¬ b p = 0)) := by
  have key := upn_inv (f := fun p s => s + (if hasP x p ∧ ¬ b p = 0 then nI 1 else nI 0)) (fun k (s : Int32) => ∃ c, c ≤ k ∧ s = nI c ∧ (c = 0 ↔ ∀ p, p < k → ¬ (hasP x p ∧ ¬ b p = 0))) N 0 (nI 0) ?_ ⟨0, Nat.le_refl _, rfl, ⟨fun _ p hp => absurd hp (Nat.not_lt_zero _), fun _ => rfl⟩⟩
  · rw [Nat.zero_add] at key
    exact key
  · intro k s _ _ ⟨c, h1, h2, h3⟩
    by_cases q : hasP x k ∧ ¬ b k = 0
    · rw [if_pos q]
      refine ⟨c + 1, by omega, by rw [h2, nI_add], ⟨fun r => by omega, fun r => absurd q (r k (by omega))⟩⟩
    · rw [if_neg q]
      refine ⟨c, by omega, by rw [h2, nI_add]; rfl, ⟨fun r p hp => ?_, fun r => h3.mpr (fun p hp => r p (by omega))⟩⟩
      by_cases e : p = k
      · rw [e]; exact q
      · exact h3.mp r p (by omega)
theorem tS_val {S s : Nat} {nu : Nat → Int32} (h1 : 1 ≤ S) : (∀ j, (tS S (nI s) nu).1 j = if 1 ≤ j ∧ j < S ∧ hasP (nI s) j then -(nu j) else nu j) ∧ ((tS S (nI s) nu).2 = 0 ∨ (tS S (nI s) nu).2 = nI 1) ∧ ((tS S (nI s) nu).2 = 0 ↔ ∀ p, p < S → ¬ (hasP (nI s) p ∧ ¬ nu p = 0)) := by
  have key := upn_inv (f := tS1 (nI s)) (fun k (a : (Nat → Int32) × Int32) => (∀ j, a.1 j = if 1 ≤ j ∧ j < k ∧ hasP (nI s) j then -(nu j) else nu j) ∧ (a.2 = 0 ∨ a.2 = nI 1) ∧ (a.2 = 0 ↔ ∀ p, p < k → ¬ (hasP (nI s) p ∧ ¬ nu p = 0))) (S - 1) 1 (nu, nI 0) ?_ ?_
  · rw [show 1 + (S - 1) = S by omega] at key
    exact key
  · intro k u hk _ ⟨i1, i2, i3⟩
    have iC : inC (nI s) k = nI 1 ↔ hasP (nI s) k := ⟨fun q => ⟨hk, q⟩, fun q => q.2⟩
    have uk : u.1 k = nu k := by rw [i1 k, if_neg (by omega)]
    unfold tS1
    rw [uk]
    by_cases q : inC (nI s) k = nI 1 ∧ ¬ nu k = 0
    · rw [if_pos q]
      refine ⟨fun j => ?_, Or.inr rfl, ⟨fun r => absurd (show nI 1 = 0 from r) (by decide), fun r => absurd ⟨iC.mp q.1, q.2⟩ (r k (by omega))⟩⟩
      dsimp only
      by_cases e : j = k
      · rw [e, upd_s, if_pos ⟨hk, by omega, iC.mp q.1⟩]
      · rw [upd_n e, i1 j]
        by_cases e2 : 1 ≤ j ∧ j < k ∧ hasP (nI s) j
        · rw [if_pos e2, if_pos ⟨e2.1, by omega, e2.2.2⟩]
        · rw [if_neg e2, if_neg (fun r => e2 ⟨r.1, by omega, r.2.2⟩)]
    · rw [if_neg q]
      refine ⟨fun j => ?_, i2, ⟨fun r p hp => ?_, fun r => i3.mpr (fun p hp => r p (by omega))⟩⟩
      · rw [i1 j]
        by_cases e : j = k
        · rw [e, if_neg (by omega)]
          by_cases e2 : hasP (nI s) k
          · have : nu k = 0 := Classical.not_not.mp (fun r => q ⟨iC.mpr e2, r⟩)
            rw [if_pos ⟨hk, by omega, e2⟩, this]
            rfl
          · rw [if_neg (fun r => e2 r.2.2)]
        · by_cases e2 : 1 ≤ j ∧ j < k ∧ hasP (nI s) j
          · rw [if_pos e2, if_pos ⟨e2.1, by omega, e2.2.2⟩]
          · rw [if_neg e2, if_neg (fun r => e2 ⟨r.1, by omega, r.2.2⟩)]
      · by_cases e : p = k
        · rw [e]; exact fun r => q ⟨iC.mpr r.1, r.2⟩
        · exact i3.mp r p (by omega)
  · refine ⟨fun j => ?_, Or.inl rfl, ⟨fun _ p hp => ?_, fun _ => rfl⟩⟩
    · rw [if_neg (by omega)]
    · intro r
      have := r.1.1
      omega
theorem swW_at {N h q : Nat} {x : Int32} {b c : Nat → Int32} : swW N h x b c q = if 20 * h ≤ q ∧ q < 20 * h + N ∧ hasP x (q - 20 * h) then -(b (q - 20 * h)) else c q := by
  have key := upn_inv (f := fun p c => if hasP x p then upd c (20 * h + p) (-(b p)) else c) (fun k (d : Nat → Int32) => ∀ q, d q = if 20 * h ≤ q ∧ q < 20 * h + k ∧ hasP x (q - 20 * h) then -(b (q - 20 * h)) else c q) N 0 c ?_ (fun q => by rw [if_neg (by omega)])
  · have := key q
    rw [Nat.zero_add] at this
    exact this
  · intro k d _ _ hd q
    by_cases e : hasP x k
    · rw [if_pos e]
      by_cases e2 : q = 20 * h + k
      · rw [e2, upd_s, show 20 * h + k - 20 * h = k by omega, if_pos ⟨by omega, by omega, e⟩]
      · rw [upd_n e2, hd q]
        by_cases e3 : 20 * h ≤ q ∧ q < 20 * h + k ∧ hasP x (q - 20 * h)
        · rw [if_pos e3, if_pos ⟨e3.1, by omega, e3.2.2⟩]
        · rw [if_neg e3, if_neg (fun r => e3 ⟨r.1, by omega, r.2.2⟩)]
    · rw [if_neg e, hd q]
      by_cases e3 : 20 * h ≤ q ∧ q < 20 * h + k ∧ hasP x (q - 20 * h)
      · rw [if_pos e3, if_pos ⟨e3.1, by omega, e3.2.2⟩]
      · rw [if_neg e3, if_neg]
        intro r
        by_cases e4 : q = 20 * h + k
        · rw [e4, show 20 * h + k - 20 * h = k by omega] at r
          exact e r.2.2
        · exact e3 ⟨r.1, by omega, r.2.2⟩
theorem sg_neg {x : Int32} {nu g : Nat → Int32} : ∀ n k, (∀ j, k ≤ j → j < k + n → g j = if hasP x j then -(nu j) else nu j) → sg n k g = sg n k nu - sg n k (inP x nu) - sg n k (inP x nu) := by
  intro n
  induction n with
  | zero => intro k _; show (0 : Int32) = 0 - 0 - 0; rfl
  | succ n ih =>
    intro k hj
    show g k + sg n (k + 1) g = (nu k + sg n (k + 1) nu) - (inP x nu k + sg n (k + 1) (inP x nu)) - (inP x nu k + sg n (k + 1) (inP x nu))
    rw [ih (k + 1) (fun j a b => hj j (by omega) (by omega)), hj k (Nat.le_refl _) (by omega)]
    unfold inP
    by_cases e : hasP x k
    · rw [if_pos e, if_pos e]
      grind
    · rw [if_neg e, if_neg e, show nI 0 = (0 : Int32) from rfl]
      grind
theorem pr_switched : PrI G mX9_switched mX10_switched 4 3 [.int x, .int y] := by
  intro σ ⟨A, B, C, I, H, T, D, z, a, tb, hX, hM, hR⟩
  obtain ⟨k1, k2, -, k4, k5⟩ := hR.1
  have hl := lC_le k1 k2
  obtain ⟨sz, r5⟩ := hR.2.2.2.2.1
  refine ConP.mono (x_switched hX r5.s1) (fun v σ1 h => ?_)
  rcases h with ⟨hc, rfl, hX1, hh⟩ | ⟨k, rfl, hk, hy, h⟩
  · refine stI hh hM (ConP.mono (m_switched k1 k2) (fun v' σ2 h' => ?_))
    rcases h' with ⟨_, h'⟩ | ⟨k, rfl, hk, hy, _⟩
    · exact fiI h' hX1 rfl rfl rfl hR
    · exact absurd ⟨hIn hk, hy⟩ hc
  · obtain ⟨b1, b2⟩ := r_bar (A := A) r5 hk k2
    rw [b1] at h
    obtain ⟨s, hs, rfl⟩ := nI_in0 (n := 32) (x := y) (by omega) (by omega) (by decide)
    have et : mBar A.1 k a = 0 → tIC (H.2.2.1 k) (nI s) (H.2.2.2 k) = swS A.1 (nI s) (mLd A.1 k (a 93) (a 98)) := by
      intro q
      obtain ⟨d1, d2, d3, d4, d5⟩ := b2 q
      rw [d3, tIC_sg (by omega) k2 hs, swS_eq]
      exact sg_congr _ _ (fun j _ hj => by unfold inP; rw [d5 j (by omega)])
    rcases h with ⟨hr, rfl, hX1, hh⟩ | ⟨hr, ht, rfl, hX1, hh⟩ | ⟨hr, ht, rfl, hX1, hh⟩
    · refine stI hh hM (ConP.mono (m_switched k1 k2) (fun v' σ2 h' => ?_))
      rcases h' with ⟨q, _⟩ | ⟨k', e, _, _, h'⟩
      · exact absurd ⟨hIn hk, hy⟩ q
      · have := nI_inj6 (by omega) (by omega) e
        subst this
        rcases h' with ⟨_, h'⟩ | ⟨q, _⟩ | ⟨q, _⟩
        · exact fiI h' hX1 rfl rfl rfl hR
        · exact absurd q hr
        · exact absurd q hr
    · refine stI hh hM (ConP.mono (m_switched k1 k2) (fun v' σ2 h' => ?_))
      rcases h' with ⟨q, _⟩ | ⟨k', e, _, _, h'⟩
      · exact absurd ⟨hIn hk, hy⟩ q
      · have := nI_inj6 (by omega) (by omega) e
        subst this
        rw [et hr] at ht
        rcases h' with ⟨q, _⟩ | ⟨_, _, h'⟩ | ⟨_, q, _⟩
        · exact absurd hr q
        · exact fiI h' hX1 rfl rfl rfl (hR.free (fun q x y => up_n (by omega)) rfl rfl)
        · exact absurd q ht
    · refine stI hh hM (ConP.mono (m_switched k1 k2) (fun v' σ2 h' => ?_))
      rcases h' with ⟨q, _⟩ | ⟨k', e, _, _, h'⟩
      · exact absurd ⟨hIn hk, hy⟩ q
      · have := nI_inj6 (by omega) (by omega) e
        subst this
        have ht0 := ht
        rw [et hr] at ht
        obtain ⟨d1, d2, d3, d4, d5⟩ := b2 hr
        obtain ⟨t1, t2, t3⟩ := tS_val (S := H.2.2.1 k) (s := s) (nu := H.2.2.2 k) (by omega)
        obtain ⟨c, hc, ec, hcz⟩ := swC_val (N := A.1) (x := nI s) (b := mLd A.1 k (a 93) (a 98))
        rcases h' with ⟨q, _⟩ | ⟨_, q, _⟩ | ⟨_, _, h'⟩
        · exact absurd hr q
        · exact absurd ht q
        · obtain ⟨o1, o2, o3, o4, o5⟩ := r5.1 k hk
          obtain ⟨c1, c2, c3, c4⟩ := r5.2 k hk
          have at_ : ∀ j, j < A.1 → (tS (H.2.2.1 k) (nI s) (H.2.2.2 k)).1 j = if hasP (nI s) j then -(H.2.2.2 k j) else H.2.2.2 k j := by
            intro j hj
            rw [t1 j, d3]
            by_cases e : hasP (nI s) j
            · rw [if_pos e, if_pos ⟨e.1, hj, e⟩]
            · rw [if_neg e, if_neg (fun q => e q.2.2)]
          have hw : isW A.1 (tS (H.2.2.1 k) (nI s) (H.2.2.2 k)).1 := by
            constructor
            · intro i hi
              rw [at_ i hi]
              have := d4.1 i hi
              by_cases e : hasP (nI s) i
              · rw [if_pos e, Int32.toInt_neg, bm32 (by omega) (by omega)]
                omega
              · rw [if_neg e]; exact this
            · rw [wSum_sg, sg_neg (x := nI s) (nu := H.2.2.2 k) A.1 0 (fun j _ hj => at_ j (by omega)), ← wSum_sg, d4.2]
              have : sg A.1 0 (inP (nI s) (H.2.2.2 k)) = 0 := by
                rw [d3, tIC_sg (by omega) k2 hs] at ht0
                exact ht0
              rw [this]
              rfl
          refine fiI h' hX1 ?_ rfl rfl (hR.ho (r5.put (kd := H.1 k) (s := sz k) (by omega) o4 (fun j _ => ?_) (fun j _ => ?_) (fun q hq => ?_) (fun _ => by omega) (fun q => by omega) (fun _ => ⟨(c2 d1).1, (c2 d1).2.1, by rw [d2]; exact hw⟩) (fun q => by omega) (fun _ j hj => ?_)) (fun q _ _ _ => ?_) rfl rfl)
          · rw [ec]
            have e1 : nI c ≤ 0 ↔ c = 0 := by
              rw [iLe, i0, nI_e (by omega)]
              omega
            have e2 : (tS (H.2.2.1 k) (nI s) (H.2.2.2 k)).2 = 0 ↔ c = 0 := by
              rw [t3, hcz, d3]
              constructor
              · intro q p hp
                rw [← d5 p hp]; exact q p hp
              · intro q p hp
                rw [d5 p hp]; exact q p hp
            by_cases e : c = 0
            · rw [if_pos (e1.mpr e), if_pos (e2.mpr e)]
            · rw [if_neg (fun q => e (e1.mp q)), if_neg (fun q => e (e2.mp q))]
          · rw [up_n (by decide), up_n (by decide)]
            by_cases e : j = k
            · rw [if_pos e, e, o1]
            · rw [if_neg e]
          · rw [up_n (by decide), up_n (by decide)]
            by_cases e : j = k
            · rw [if_pos e, e, o3]
            · rw [if_neg e]
          · rw [up_s, swW_at, if_neg (by omega)]
          · rw [up_s, swW_at, show 20 * k + j - 20 * k = j by omega]
            rw [d3] at hj
            rw [at_ j hj]
            by_cases e : hasP (nI s) j
            · rw [if_pos e, if_pos ⟨by omega, by omega, e⟩, d5 j hj]
            · rw [if_neg e, if_neg (fun q => e q.2.2)]
              exact c4 (by omega) j (by omega)
          · rw [up_n (by omega), up_n (by omega)]
end HO3
