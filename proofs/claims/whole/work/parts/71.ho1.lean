/-! holders of both -/
section HO1
variable {G : GT} {x y w : Int32} {A : XA} {B : XB} {C : XC} {I : XI} {H : XH} {T : XT} {D : Nat} {z z' : Nat → Int32} {a a' : Nat → Nat → Int32} {sz : Nat → Nat}
theorem HOR.size (h : HOR H sz a) {k : Nat} (hk : k < 6) (h0 : ¬ H.1 k = 0) : H.2.2.1 k ≤ 20 := by
  obtain ⟨ho, hh⟩ := h
  obtain ⟨a1, a2, a3, a4, a5⟩ := ho k hk
  obtain ⟨c1, c2, c3, -⟩ := hh k hk
  by_cases e1 : H.1 k = 1
  · rw [(c1 e1).2]
    have := pN_le (a5 (Or.inl e1)).2
    omega
  · by_cases e2 : H.1 k = 2
    · rw [(c2 e2).2.1]; omega
    · rw [c3 (by omega)]; omega
theorem HOR.put (h : HOR H sz a) {h0 kd op S s : Nat} {nu : Nat → Int32} (hk : kd ≤ 3) (hs : s ≤ 20) (e91 : ∀ k, k < 6 → a' 91 k = if k = h0 then nI kd else a 91 k) (e92 : ∀ k, k < 6 → a' 92 k = if k = h0 then nI s else a 92 k) (e93 : ∀ q, ¬ (20 * h0 ≤ q ∧ q < 20 * h0 + 20) → a' 93 q = a 93 q) (c0 : kd = 1 ∨ kd = 2 → 2 ≤ s ∧ s ≤ 6) (c1 : kd = 1 → op = s ∧ S = pN s) (c2 : kd = 2 → op = s ∧ S = s ∧ isW s nu) (c3 : kd = 3 → S = s) (c4 : ¬ kd = 0 → ∀ k, k < S → nu k = a' 93 (20 * h0 + k)) : HOR (va_up H.1 h0 kd, va_up H.2.1 h0 op, va_up H.2.2.1 h0 S, va_up H.2.2.2 h0 nu) (va_up sz h0 s) a' := by
  have hz := h
  obtain ⟨ho, hh⟩ := h
  refine ⟨fun k hk6 => ?_, fun k hk6 => ?_⟩
  · dsimp only
    rw [e91 k hk6, e92 k hk6]
    by_cases e : k = h0
    · rw [if_pos e, if_pos e, e, up_s, up_s]
      exact ⟨rfl, hk, rfl, hs, c0⟩
    · rw [if_neg e, if_neg e, up_n e, up_n e]
      exact ho k hk6
  · dsimp only
    by_cases e : k = h0
    · rw [e, up_s, up_s, up_s, up_s, up_s]
      exact ⟨c1, c2, c3, c4⟩
    · rw [up_n e, up_n e, up_n e, up_n e, up_n e]
      obtain ⟨d1, d2, d3, d4⟩ := hh k hk6
      refine ⟨d1, d2, d3, fun q j hj => ?_⟩
      have := hz.size hk6 q
      rw [e93 _ (by omega)]
      exact d4 q j hj
theorem Rel.ho {H2 : XH} {sz2 : Nat → Nat} (h : Rel A B C I H T D z a) (h2 : HOR H2 sz2 a') (ha : ∀ q, 85 ≤ q → q < 97 → (q < 91 ∨ 93 < q) → a' q = a q) (e1 : z' 12 = z 12) (e2 : z' 13 = z 13) : Rel A B C I H2 T D z' a' := by
  obtain ⟨r1, r2, r3, r4, -, r6, r7⟩ := h
  refine ⟨?_, ?_, ?_, r4.congr (fun q x y => ha q (by omega) (by omega) (by omega)) e1 e2, ⟨sz2, h2⟩, r6, ?_⟩
  · rw [ha 85 (by decide) (by decide) (by decide)]; exact r1
  · rw [ha 86 (by decide) (by decide) (by decide), ha 87 (by decide) (by decide) (by decide)]; exact r2
  · rw [ha 88 (by decide) (by decide) (by decide), ha 89 (by decide) (by decide) (by decide)]; exact r3
  · rw [ha 90 (by decide) (by decide) (by decide)]; exact r7
theorem upd_if {f : Nat → Int32} {k j : Nat} {v : Int32} : upd f k v j = if j = k then v else f j := by
  by_cases e : j = k
  · rw [if_pos e, e, upd_s]
  · rw [if_neg e, upd_n e]
theorem nI_kd {k c : Nat} (hk : k ≤ 3) (hc : c ≤ 3) : nI k = nI c ↔ k = c := ⟨fun e => nI_inj6 (by omega) (by omega) e, fun e => by rw [e]⟩
theorem mHo_eq {N h : Nat} {far f c : Nat → Int32} (h2 : 2 ≤ N) (h6 : N ≤ 6) (hF : FR N far f) : mHo N h f c = upn (pN N) 0 (fun p c => upd c (20 * h + p) (far p)) c := by
  rw [upn_pairs h2 h6]
  exact dbl_eq (f := fun i j c => mHo1 N h f i j c) (g := fun i j c => upd c (20 * h + pI N i j) (far (pI N i j))) (fun i j c hij hj => by unfold mHo1; rw [hF.at hij hj])
theorem hIs {x : Int32} (h : 0 ≤ x.toInt ∧ x.toInt ≤ 5) : ∃ k, k < 6 ∧ x = nI k := nI_in0 (n := 6) h.1 (by omega) (by decide)
theorem hIn {k : Nat} (hk : k < 6) : 0 ≤ (nI k).toInt ∧ (nI k).toInt ≤ 5 := by rw [nI_e (by omega)]; omega
theorem pr_hold : PrI G mX9_hold mX10_hold 2 3 [.int x] := by
  intro σ ⟨A, B, C, I, H, T, D, z, a, tb, hX, hM, hR⟩
  obtain ⟨k1, k2, -, k4, k5⟩ := hR.1
  obtain ⟨sz, r5⟩ := hR.2.2.2.2.1
  refine ConP.mono (x_hold hX) (fun v σ1 h => ?_)
  rcases h with ⟨hc, rfl, hX1, hh⟩ | ⟨k, rfl, hk, rfl, hX1, hh⟩
  · refine stI hh hM (ConP.mono (m_hold k1 k2) (fun v' σ2 h' => ?_))
    rcases h' with ⟨_, h'⟩ | ⟨k, rfl, hk, _⟩
    · exact fiI h' hX1 rfl rfl rfl hR
    · exact absurd (hIn hk) hc
  · refine stI hh hM (ConP.mono (m_hold k1 k2) (fun v' σ2 h' => ?_))
    rcases h' with ⟨q, _⟩ | ⟨k', e, _, h'⟩
    · exact absurd (hIn hk) q
    · have e' := nI_inj6 (by omega) (by omega) e
      subst e'
      have hp := pN_le k2
      refine fiI h' hX1 rfl rfl rfl (hR.ho (r5.put (s := A.1) (by decide) (by omega) (fun j _ => ?_) (fun j _ => ?_) (fun q hq => ?_) (fun _ => ⟨k1, k2⟩) (fun _ => ⟨rfl, rfl⟩) (fun q => by omega) (fun q => by omega) (fun _ j hj => ?_)) (fun q _ _ _ => ?_) rfl rfl)
      · rw [up_n (by decide), up_n (by decide), up_s, upd_if]
      · rw [up_n (by decide), up_s, upd_if]
      · rw [up_s, mHo_eq k1 k2 k5, upn_sh, if_neg (by omega)]
      · rw [up_s, mHo_eq k1 k2 k5, upn_sh, if_pos (by omega), cpy_at hj, show 20 * k + j - 20 * k = j by omega]
      · rw [up_n (by omega), up_n (by omega), up_n (by omega)]
theorem pr_lose : PrI G mX9_lose mX10_lose 2 3 [.int x] := by
  intro σ ⟨A, B, C, I, H, T, D, z, a, tb, hX, hM, hR⟩
  obtain ⟨sz, r5⟩ := hR.2.2.2.2.1
  refine ConP.mono (x_lose hX) (fun v σ1 h => ?_)
  rcases h with ⟨hc, rfl, hX1, hh⟩ | ⟨k, rfl, hk, rfl, hX1, hh⟩
  · refine stI hh hM (ConP.mono (m_lose r5.1) (fun v' σ2 h' => ?_))
    rcases h' with ⟨_, h'⟩ | ⟨k, rfl, hk, _⟩
    · exact fiI h' hX1 rfl rfl rfl hR
    · exact absurd (hIn hk) hc
  · refine stI hh hM (ConP.mono (m_lose r5.1) (fun v' σ2 h' => ?_))
    rcases h' with ⟨q, _⟩ | ⟨k', e, _, h'⟩
    · exact absurd (hIn hk) q
    · have e' := nI_inj6 (by omega) (by omega) e
      subst e'
      obtain ⟨o1, o2, o3, o4, o5⟩ := r5.1 k hk
      refine fiI h' hX1 rfl rfl rfl (hR.ho (r5.put (s := sz k) (by decide) o4 (fun j _ => ?_) (fun j _ => ?_) (fun q hq => ?_) (fun q => by omega) (fun q => by omega) (fun q => by omega) (fun q => by omega) (fun q => absurd rfl q)) (fun q _ _ _ => ?_) rfl rfl)
      · rw [up_s, upd_if]
      · rw [up_n (by decide)]
        by_cases e : j = k
        · rw [if_pos e, e, o3]
        · rw [if_neg e]
      · rw [up_n (by decide)]
      · rw [up_n (by omega)]
theorem ab_mOff {v : Int32} : ab v = mOff v (nI 0) := by
  unfold ab mOff
  by_cases h : v < nI 0
  · rw [if_pos h, if_neg (by rw [iLt, nI_e (by decide)] at h; rw [iLe, i0]; omega)]
    rfl
  · rw [if_neg h, if_pos (by rw [iLt, nI_e (by decide)] at h; rw [iLe, i0]; omega)]
    exact (Int32.sub_zero v).symm
theorem wid_eq {n : Nat} {nu c : Nat → Int32} (h : ∀ k, k < n → nu k = c k) : wWid n nu = mWid n c := by
  refine upn_congr n 0 (nI 0) (fun j b _ hj => ?_)
  rw [ab_mOff, h j (by omega)]
theorem wSum_congr {n : Nat} {nu c : Nat → Int32} (h : ∀ k, k < n → nu k = c k) : wSum n nu = wSum n c := by
  refine upn_congr n 0 (nI 0) (fun j b _ hj => ?_)
  rw [h j (by omega)]
theorem isW.congr {n : Nat} {nu c : Nat → Int32} (h : ∀ k, k < n → nu k = c k) (hw : isW n nu) : isW n c := ⟨fun i hi => by rw [← h i hi]; exact hw.1 i hi, by rw [← wSum_congr h]; exact hw.2⟩
theorem pr_taken : PrI G mX9_taken mX10_taken 2 3 [.int x, .int y] := by
  intro σ ⟨A, B, C, I, H, T, D, z, a, tb, hX, hM, hR⟩
  obtain ⟨sz, r5⟩ := hR.2.2.2.2.1
  refine ConP.mono (x_taken hX) (fun v σ1 h => ?_)
  rcases h with ⟨hc, rfl, hX1, hh⟩ | ⟨k, rfl, hk, hy, rfl, hX1, hh⟩
  · refine stI hh hM (ConP.mono (m_taken r5.1) (fun v' σ2 h' => ?_))
    rw [if_neg hc] at h'
    exact fiI h' hX1 rfl rfl rfl hR
  · refine stI hh hM (ConP.mono (m_taken r5.1) (fun v' σ2 h' => ?_))
    rw [if_pos ⟨hIn hk, hy⟩] at h'
    refine fiI h' hX1 ?_ rfl rfl hR
    obtain ⟨o1, o2, o3, o4, o5⟩ := r5.1 k hk
    obtain ⟨c1, c2, c3, c4⟩ := r5.2 k hk
    have ek : (nI k).toInt.toNat = k := by rw [nI_e (by omega)]; omega
    rw [ek]
    obtain ⟨u, hu, rfl⟩ := nI_in0 (n := 3) (x := y) hy.1 (by omega) (by decide)
    have eu : (nI u).toInt = u := nI_e (by omega)
    have n0 : ∀ c, nI u = nI c ↔ nI u = nI c := fun c => Iff.rfl
    unfold xTk
    have z0 : ∀ j, j ≤ 3 → (nI j = 0 ↔ j = 0) := fun j hj => nI_kd hj (by decide)
    have z2 : (nI u = 2 ↔ u = 2) := nI_kd (by omega) (by decide)
    rw [eu]
    by_cases e0 : H.1 k = 0
    · rw [if_pos e0, if_pos ((z0 _ o2).mpr e0)]
    rw [if_neg e0, if_neg (fun q => e0 ((z0 _ o2).mp q))]
    have c4' := c4 e0
    by_cases e3 : H.1 k = 3
    · rw [if_pos (Or.inl e3), if_neg (fun q => absurd ((nI_kd o2 (by decide)).mp q.2) (by omega)), if_neg (fun q => absurd ((nI_kd o2 (by decide)).mp q.2) (by omega)), if_neg (fun q => q.2 ((nI_kd o2 (by decide)).mpr e3))]
    by_cases e1 : H.1 k = 1
    · obtain ⟨d1, d2⟩ := c1 e1
      by_cases u0 : u = 0
      · subst u0
        rw [if_neg (by omega), if_neg (by decide), if_pos (show nI 0 = 0 from rfl), if_pos ⟨rfl, by rw [e1]⟩, d2]
        rw [d2] at c4'
        exact (wSum_congr c4').symm
      · by_cases u2 : u = 2
        · subst u2
          rw [if_neg (by omega), if_pos (show nI 2 = 2 from rfl), if_neg (fun q => absurd q.1 (by decide)), if_neg (fun q => absurd q.1 (by decide)), if_pos ⟨rfl, fun q => e3 ((nI_kd o2 (by decide)).mp q)⟩, d1]
        · have u1 : u = 1 := by omega
          subst u1
          rw [if_pos (Or.inr ⟨by decide, by omega⟩), if_neg (fun q => absurd q.1 (by decide)), if_neg (fun q => absurd ((nI_kd o2 (by decide)).mp q.2) (by omega)), if_neg (fun q => absurd q.1 (by decide))]
    · have e2 : H.1 k = 2 := by omega
      obtain ⟨d1, d2, -⟩ := c2 e2
      by_cases u0 : u = 0
      · subst u0
        rw [if_pos (Or.inr ⟨by decide, by omega⟩), if_neg (fun q => absurd ((nI_kd o2 (by decide)).mp q.2) (by omega)), if_neg (fun q => absurd q.1 (by decide)), if_neg (fun q => absurd q.1 (by decide))]
      · by_cases u2 : u = 2
        · subst u2
          rw [if_neg (by omega), if_pos (show nI 2 = 2 from rfl), if_neg (fun q => absurd q.1 (by decide)), if_neg (fun q => absurd q.1 (by decide)), if_pos ⟨rfl, fun q => e3 ((nI_kd o2 (by decide)).mp q)⟩, d1]
        · have u1 : u = 1 := by omega
          subst u1
          rw [if_neg (by omega), if_neg (by decide), if_neg (by decide), if_neg (fun q => absurd q.1 (by decide)), if_pos ⟨rfl, by rw [e2]⟩, d2]
          rw [d2] at c4'
          exact (wid_eq c4').symm
theorem HOR.many (h : HOR H sz a) {k : Nat} (hk : k < 6) (h0 : ¬ H.1 k = 0) : hoN H.1 sz k = H.2.2.1 k := by
  obtain ⟨o1, o2, o3, o4, o5⟩ := h.1 k hk
  obtain ⟨c1, c2, c3, -⟩ := h.2 k hk
  unfold hoN
  by_cases e1 : H.1 k = 1
  · rw [if_pos e1, (c1 e1).2]
  · rw [if_neg e1]
    by_cases e2 : H.1 k = 2
    · rw [(c2 e2).2.1]
    · rw [c3 (by omega)]
theorem pr_number : PrL G mX9_number mX10_number 2 3 [.int x, .int y] := by
  intro σ ⟨A, B, C, I, H, T, D, z, a, tb, hX, hM, hR⟩
  obtain ⟨sz, r5⟩ := hR.2.2.2.2.1
  refine ConP.mono (x_number hX) (fun v σ1 h => ?_)
  rcases h with ⟨hc, rfl, hX1, hh⟩ | ⟨k, rfl, hk, rfl, hX1, hh⟩
  · refine stL hh hM (ConP.mono (m_number r5.1) (fun v' σ2 h' => ?_))
    rw [if_neg (fun q => hc q.1)] at h'
    exact fiL h' hX1 rfl rfl rfl hR
  · refine stL hh hM (ConP.mono (m_number r5.1) (fun v' σ2 h' => ?_))
    refine fiL h' hX1 ?_ rfl rfl hR
    have ek : (nI k).toInt.toNat = k := by rw [nI_e (by omega)]; omega
    obtain ⟨o1, o2, o3, o4, o5⟩ := r5.1 k hk
    have z0 : nI (H.1 k) = 0 ↔ H.1 k = 0 := nI_kd o2 (by decide)
    rw [ek]
    by_cases e0 : H.1 k = 0
    · rw [if_neg (fun q => q.2.1 e0), if_neg (fun q => q.1 (z0.mpr e0))]
    · rw [r5.many hk e0]
      by_cases e1 : 0 ≤ y.toInt ∧ y.toInt < H.2.2.1 k
      · rw [if_pos ⟨hIn hk, e0, e1⟩, if_pos ⟨fun q => e0 (z0.mp q), e1⟩, (r5.2 k hk).2.2.2 e0 _ (by omega)]
      · rw [if_neg (fun q => e1 q.2.2), if_neg (fun q => e1 q.2)]
theorem pr_row : PrI G mX9_row mX10_row 2 3 [.int x, .int y] := by
  intro σ ⟨A, B, C, I, H, T, D, z, a, tb, hX, hM, hR⟩
  obtain ⟨sz, r5⟩ := hR.2.2.2.2.1
  refine ConP.mono (x_row hX) (fun v σ1 h => ?_)
  rcases h with ⟨hc, rfl, hX1, hh⟩ | ⟨hc, hy, rfl, hX1, hh⟩ | ⟨k, n, rfl, hk, rfl, hn, rfl, hX1, hh⟩
  · refine stI hh hM (ConP.mono m_row (fun v' σ2 h' => ?_))
    rcases h' with ⟨_, h'⟩ | ⟨q1, q2, _⟩ | ⟨k, n, rfl, hk, rfl, hn, _⟩
    · exact fiI h' hX1 rfl rfl rfl hR
    · exact absurd ⟨q1, by omega⟩ hc
    · exact absurd ⟨hIn hk, by rw [nI_e (by omega)]; omega⟩ hc
  · refine stI hh hM (ConP.mono m_row (fun v' σ2 h' => ?_))
    rcases h' with ⟨q, _⟩ | ⟨q1, q2, h'⟩ | ⟨k, n, rfl, hk, rfl, hn, _⟩
    · exact absurd ⟨hc, by omega⟩ q
    · exact fiI h' hX1 rfl rfl rfl hR
    · rw [nI_e (by omega)] at hy; omega
  · refine stI hh hM (ConP.mono m_row (fun v' σ2 h' => ?_))
    rcases h' with ⟨q, _⟩ | ⟨_, q, _⟩ | ⟨k', n', e, _, e2, _, h'⟩
    · exact absurd ⟨hIn hk, by rw [nI_e (by omega)]; omega⟩ q
    · rw [nI_e (by omega)] at q; omega
    · have e' := nI_inj6 (by omega) (by omega) e
      subst e'
      have e2' := nI_inj6 (by omega) (by omega) e2
      subst e2'
      refine fiI h' hX1 rfl rfl rfl (hR.ho (r5.put (s := n) (by decide) hn (fun j _ => ?_) (fun j _ => ?_) (fun q hq => ?_) (fun q => by omega) (fun q => by omega) (fun q => by omega) (fun _ => rfl) (fun _ j hj => ?_)) (fun q _ _ _ => ?_) rfl rfl)
      · rw [up_n (by decide), up_n (by decide), up_s, upd_if]
      · rw [up_n (by decide), up_s, upd_if]
      · rw [up_s]
        have := upn_sh (c := 20 * k) (w := fun _ => nI 0) 20 0 (a 93) q
        rw [if_neg (by omega)] at this
        exact this
      · rw [up_s, zf_at (by omega)]
        have := upn_sh (c := 20 * k) (w := fun _ => nI 0) 20 0 (a 93) (20 * k + j)
        rw [if_pos (by omega)] at this
        exact this.symm
      · rw [up_n (by omega), up_n (by omega), up_n (by omega)]
theorem xRk_val (h : HOR H sz a) {k c : Nat} (hk : k < 6) (hc : c ≤ 3) : xRk H k c = if H.1 k = 0 then -11 else if H.1 k = c then 0 else -12 := by
  obtain ⟨o1, o2, -⟩ := h.1 k hk
  have z0 : nI (H.1 k) = 0 ↔ H.1 k = 0 := nI_kd o2 (by decide)
  unfold xRk
  by_cases e0 : H.1 k = 0
  · rw [if_pos e0, if_pos (z0.mpr e0)]
  · rw [if_neg e0, if_neg (fun q => e0 (z0.mp q))]
    by_cases e1 : H.1 k = c
    · rw [if_pos e1, if_pos ((nI_kd o2 hc).mpr e1)]
    · rw [if_neg e1, if_neg (fun q => e1 ((nI_kd o2 hc).mp q))]
theorem xRk_0 (h : HOR H sz a) {k c : Nat} (hk : k < 6) (hc : c ≤ 3) (h1 : 1 ≤ c) : xRk H k c = 0 ↔ H.1 k = c := by
  rw [xRk_val h hk hc]
  by_cases e0 : H.1 k = 0
  · rw [if_pos e0]
    constructor
    · intro q; exact absurd q (by decide)
    · intro q; omega
  · rw [if_neg e0]
    by_cases e1 : H.1 k = c
    · rw [if_pos e1]
      exact ⟨fun _ => e1, fun _ => rfl⟩
    · rw [if_neg e1]
      exact ⟨fun q => absurd q (by decide), fun q => absurd q e1⟩
theorem pr_set : PrI G mX9_set mX10_set 3 3 [.int x, .int y, .int w] := by
  intro σ ⟨A, B, C, I, H, T, D, z, a, tb, hX, hM, hR⟩
  obtain ⟨sz, r5⟩ := hR.2.2.2.2.1
  refine ConP.mono (x_set hX) (fun v σ1 h => ?_)
  rcases h with ⟨hc, rfl, hX1, hh⟩ | ⟨k, rfl, hk, h⟩
  · refine stI hh hM (ConP.mono (m_set r5.1) (fun v' σ2 h' => ?_))
    rcases h' with ⟨_, h'⟩ | ⟨k, rfl, hk, _⟩
    · exact fiI h' hX1 rfl rfl rfl hR
    · exact absurd (hIn hk) hc
  · have e3 := xRk_0 r5 hk (c := 3) (by decide) (by decide)
    have e4 := xRk_val r5 hk (c := 3) (by decide)
    obtain ⟨o1, o2, o3, o4, o5⟩ := r5.1 k hk
    obtain ⟨c1, c2, c3, c4⟩ := r5.2 k hk
    rcases h with ⟨hr, rfl, hX1, hh⟩ | ⟨hr, hy, rfl, hX1, hh⟩ | ⟨i, hr, rfl, hi, rfl, hX1, hh⟩
    · refine stI hh hM (ConP.mono (m_set r5.1) (fun v' σ2 h' => ?_))
      rcases h' with ⟨q, _⟩ | ⟨k', e, _, h'⟩
      · exact absurd (hIn hk) q
      · have e' := nI_inj6 (by omega) (by omega) e
        subst e'
        rw [e3] at hr
        rcases h' with ⟨q, h'⟩ | ⟨q1, q2, h'⟩ | ⟨q, _⟩ | ⟨_, q, _⟩
        · exact fiI h' hX1 (by rw [e4, if_pos q]) rfl rfl hR
        · exact fiI h' hX1 (by rw [e4, if_neg q1, if_neg q2]) rfl rfl hR
        · exact absurd q hr
        · exact absurd q hr
    · refine stI hh hM (ConP.mono (m_set r5.1) (fun v' σ2 h' => ?_))
      rcases h' with ⟨q, _⟩ | ⟨k', e, _, h'⟩
      · exact absurd (hIn hk) q
      · have e' := nI_inj6 (by omega) (by omega) e
        subst e'
        rw [e3] at hr
        rw [c3 hr] at hy
        rcases h' with ⟨q, _⟩ | ⟨_, q, _⟩ | ⟨_, _, h'⟩ | ⟨i, _, rfl, q, _⟩
        · omega
        · exact absurd hr q
        · exact fiI h' hX1 rfl rfl rfl hR
        · exact absurd (by rw [nI_e (by omega)]; omega) hy
    · have hr' := e3.mp hr
      have h20 := r5.size hk (by omega)
      refine stI hh hM (ConP.mono (m_set r5.1) (fun v' σ2 h' => ?_))
      rcases h' with ⟨q, _⟩ | ⟨k', e, _, h'⟩
      · exact absurd (hIn hk) q
      · have e' := nI_inj6 (by omega) (by omega) e
        subst e'
        rcases h' with ⟨q, _⟩ | ⟨_, q, _⟩ | ⟨_, q, _⟩ | ⟨i', _, ei, _, h'⟩
        · omega
        · exact absurd hr' q
        · exact absurd (by rw [nI_e (by omega), ← c3 hr']; omega) q
        · have ei' := nI_inj6 (by omega) (by omega) ei
          subst ei'
          have sw : (va_up H.1 k (H.1 k), va_up H.2.1 k (H.2.1 k), va_up H.2.2.1 k (H.2.2.1 k), va_up H.2.2.2 k (upd (H.2.2.2 k) i w)) = (va_up H.1 k 3, va_up H.2.1 k (H.2.1 k), va_up H.2.2.1 k (H.2.2.1 k), va_up H.2.2.2 k (upd (H.2.2.2 k) i w)) := by rw [hr']
          rw [sw] at hX1
          refine fiI h' hX1 rfl rfl rfl (hR.ho (r5.put (s := sz k) (by decide) o4 (fun j _ => ?_) (fun j _ => ?_) (fun q hq => ?_) (fun q => by omega) (fun q => by omega) (fun q => by omega) (fun _ => c3 hr') (fun _ j hj => ?_)) (fun q _ _ _ => ?_) rfl rfl)
          · rw [up_n (by decide)]
            by_cases e : j = k
            · rw [if_pos e, e, o1, hr']
            · rw [if_neg e]
          · rw [up_n (by decide)]
            by_cases e : j = k
            · rw [if_pos e, e, o3]
            · rw [if_neg e]
          · rw [up_s, upd_n (by omega)]
          · rw [up_s]
            by_cases e : j = i
            · rw [e, upd_s, upd_s]
            · rw [upd_n e, upd_n (by omega)]
              exact c4 (by omega) j hj
          · rw [up_n (by omega)]
theorem r_judge {N S h : Nat} {nu far c f : Nat → Int32} (h6 : N ≤ 6) (hF : FR N far f) (hc : ∀ k, k < S → nu k = c (20 * h + k)) : ∀ n p, p + n = pN N → xJu (pN N) S nu far n p = match jF (jBad N S h c f) n p with | some p => nI p | none => if S ≤ pN N then -2 else nI (pN N) := by
  intro n
  induction n with
  | zero =>
    intro p _
    show (if pN N < S then nI (pN N) else -2) = if S ≤ pN N then -2 else nI (pN N)
    by_cases e : pN N < S
    · rw [if_pos e, if_neg (by omega)]
    · rw [if_neg e, if_pos (by omega)]
  | succ n ih =>
    intro p hp
    obtain ⟨i, hi, j, hj, hij, e⟩ := pI_sur N (by omega) p (by omega)
    have pr := pr_at0 N (by omega) i hi j hj hij
    rw [e] at pr
    unfold xJu jF
    have key : jBad N S h c f p = true ↔ ¬ (p < S ∧ nu p = far p) := by
      unfold jBad
      rw [decide_eq_true_eq, pr.1, pr.2, hF.at hij hj, e]
      constructor
      · intro q r
        rcases q with q | q
        · omega
        · exact q (by rw [← hc p r.1]; exact r.2)
      · intro q
        by_cases r : S ≤ p
        · exact Or.inl r
        · refine Or.inr (fun s => q ⟨by omega, ?_⟩)
          rw [hc p (by omega)]
          exact s
    by_cases q : p < S ∧ nu p = far p
    · rw [if_pos q, if_neg (fun r => (key.mp r) q)]
      exact ih (p + 1) (by omega)
    · rw [if_neg q, if_pos (key.mpr q)]
theorem pr_judge : PrI G mX9_judge mX10_judge 3 3 [.int x] := by
  intro σ ⟨A, B, C, I, H, T, D, z, a, tb, hX, hM, hR⟩
  obtain ⟨k1, k2, -, k4, k5⟩ := hR.1
  obtain ⟨sz, r5⟩ := hR.2.2.2.2.1
  refine ConP.mono (x_judge hX) (fun v σ1 h => ?_)
  rcases h with ⟨hc, rfl, hX1, hh⟩ | ⟨k, rfl, hk, rfl, hX1, hh⟩
  · refine stI hh hM (ConP.mono (m_judge k1 k2 r5.1) (fun v' σ2 h' => ?_))
    rw [if_neg hc] at h'
    exact fiI h' hX1 rfl rfl rfl hR
  · refine stI hh hM (ConP.mono (m_judge k1 k2 r5.1) (fun v' σ2 h' => ?_))
    rw [if_pos (hIn hk)] at h'
    refine fiI h' hX1 ?_ rfl rfl hR
    have ek : (nI k).toInt.toNat = k := by rw [nI_e (by omega)]; omega
    rw [ek]
    have e3 := xRk_0 r5 hk (c := 3) (by decide) (by decide)
    have e4 := xRk_val r5 hk (c := 3) (by decide)
    by_cases e : H.1 k = 3
    · rw [if_pos (e3.mpr e), if_neg (by omega), if_pos e]
      obtain ⟨c1, c2, c3, c4⟩ := r5.2 k hk
      have := r_judge (S := H.2.2.1 k) (h := k) k2 k5 (c4 (by omega)) (pN A.1) 0 (by omega)
      rw [this, c3 e]
      rfl
    · rw [if_neg (fun q => e (e3.mp q)), e4]
      by_cases e0 : H.1 k = 0
      · rw [if_pos e0, if_pos e0]
      · rw [if_neg e0, if_neg e0, if_neg e, if_neg e]
end HO1
