/-! both: distances -/
theorem FR_z {N : Nat} {f g : Nat → Int32} (h6 : N ≤ 6) : FR N (zf 15 f) (zf 36 g) := by
  intro i hi j hj
  rw [zf_at (by omega)]
  by_cases e : i = j
  · rw [e, dT_self]
  · rw [dT_lt hi hj e, zf_at (pI_lt h6 hi hj e)]
theorem inB_z {N : Nat} {f : Nat → Int32} (h6 : N ≤ 6) : inB N (zf 15 f) := by
  intro p hp
  have := pN_le h6
  rw [zf_at (by omega)]
  decide
theorem nI_inj6 {P N : Nat} (h1 : P ≤ 1000) (h2 : N ≤ 1000) (e : nI P = nI N) : P = N := by
  rw [iEq, nI_e (by omega), nI_e (by omega)] at e
  omega
section PR1
variable {G : GT} {x y w : Int32}
theorem pr_points : PrI G mX9_points mX10_points 3 2 [.int x] := by
  intro σ ⟨A, B, C, I, H, T, D, z, a, tb, hX, hM, hR⟩
  obtain ⟨k1, k2, -, k4, k5⟩ := hR.1
  refine ConP.mono (x_points hX) (fun v σ1 h => ?_)
  rcases h with ⟨hc, rfl, hX1, hh⟩ | ⟨P, rfl, hP, hP6, rfl, hX1, hh⟩
  · refine stI hh hM (ConP.mono (m_points k1 k2) (fun v' σ2 h' => ?_))
    rcases h' with ⟨_, h'⟩ | ⟨P, rfl, q1, q2, _⟩
    · exact fiI h' hX1 rfl rfl rfl hR
    · exact absurd (by rw [nI_e (by omega)]; omega) hc
  · refine stI hh hM (ConP.mono (m_points k1 k2) (fun v' σ2 h' => ?_))
    rcases h' with ⟨q, _⟩ | ⟨P2, e, q1, q2, h'⟩
    · exact absurd (by rw [nI_e (by omega)]; omega) q
    · have e' := nI_inj6 (by omega) (by omega) e
      subst e'
      refine fiI h' hX1 rfl rfl rfl ?_
      obtain ⟨r1, r2, r3, r4, ⟨sz, r5⟩, r6, r7⟩ := hR
      refine ⟨⟨hP, hP6, rfl, inB_z hP6, ?_⟩, ?_, ?_, r4.congr (fun q x y => ?_) rfl rfl, ⟨sz, r5.congr (fun q x y => ?_)⟩, r6, ?_⟩
      · rw [up_n (by decide), up_n (by decide), up_s]
        exact FR_z hP6
      · rw [up_s, up_n (by decide), up_s]
        intro p hp
        dsimp only
        rw [clF_at (k := 0) hp (by decide), clF_at (k := 0) hp (by decide), if_pos (Nat.zero_le p), if_pos (Nat.zero_le p), zf_at hp, zf_at hp]
        exact ⟨rfl, rfl, fun _ => ⟨rfl, rfl⟩, ⟨0, by omega, rfl⟩, ⟨0, by omega, rfl⟩⟩
      · rw [up_n (by decide), up_n (by decide), up_n (by decide), up_n (by decide), up_n (by decide), up_n (by decide)]
        exact DR.none r3.2.2.1
      · rw [up_n (by omega), up_n (by omega), up_n (by omega)]
      · rw [up_n (by omega), up_n (by omega), up_n (by omega)]
      · rw [up_n (by decide), up_n (by decide), up_n (by decide)]
        exact r7
theorem pr_at : PrI G mX9_at mX10_at 3 4 [.int x, .int y] := by
  intro σ ⟨A, B, C, I, H, T, D, z, a, tb, hX, hM, hR⟩
  obtain ⟨k1, k2, -, k4, k5⟩ := hR.1
  refine ConP.mono (x_at hX) (fun v σ1 h => ?_)
  rcases h with ⟨hc, rfl, hX1, hh⟩ | ⟨i, j, rfl, rfl, hi, hj, hij, rfl, hX1, hh⟩
  · refine stI hh hM (ConP.mono (m_at k1 k2) (fun v' σ2 h' => ?_))
    rcases h' with ⟨_, h'⟩ | ⟨i, j, rfl, rfl, hi, hj, hij, _⟩
    · exact fiI h' hX1 rfl rfl rfl hR
    · exact absurd ((okPr_nI (by omega) (by omega)).mpr ⟨hi, hj, hij⟩) hc
  · refine stI hh hM (ConP.mono (m_at k1 k2) (fun v' σ2 h' => ?_))
    rcases h' with ⟨q, _⟩ | ⟨i2, j2, e1, e2, hi2, hj2, hij2, h'⟩
    · exact absurd ((okPr_nI (by omega) (by omega)).mpr ⟨hi, hj, hij⟩) q
    · have e1' := nI_inj6 (by omega) (by omega) e1
      have e2' := nI_inj6 (by omega) (by omega) e2
      subst e1' e2'
      exact fiI h' hX1 (k5 _ hi _ hj) rfl rfl hR
theorem pr_put : PrI G mX9_put mX10_put 4 4 [.int x, .int y, .int w] := by
  intro σ ⟨A, B, C, I, H, T, D, z, a, tb, hX, hM, hR⟩
  obtain ⟨k1, k2, -, k4, k5⟩ := hR.1
  have hD := hR.2.2.1.2.1
  refine ConP.mono (x_put hX) (fun v σ1 h => ?_)
  rcases h with ⟨hc, rfl, hX1, hh⟩ | ⟨i, j, g, f, rfl, rfl, hi, hj, hij, hw, hf, rfl, hX1, hh⟩
  · refine stI hh hM (ConP.mono (m_put k1 k2 hD) (fun v' σ2 h' => ?_))
    rcases h' with ⟨_, h'⟩ | ⟨i, j, rfl, rfl, hi, hj, hij, hw, _⟩
    · exact fiI h' hX1 rfl rfl rfl hR
    · exact absurd ⟨(okPr_nI (by omega) (by omega)).mpr ⟨hi, hj, hij⟩, hw⟩ hc
  · refine stI hh hM (ConP.mono (m_put k1 k2 hD) (fun v' σ2 h' => ?_))
    rcases h' with ⟨q, _⟩ | ⟨i2, j2, e1, e2, hi2, hj2, hij2, _, h'⟩
    · exact absurd ⟨(okPr_nI (by omega) (by omega)).mpr ⟨hi, hj, hij⟩, hw⟩ q
    · have e1' := nI_inj6 (by omega) (by omega) e1
      have e2' := nI_inj6 (by omega) (by omega) e2
      subst e1' e2'
      obtain ⟨c, hc, e⟩ := nI_in0 (n := 1000) hw.1 (by omega) (by decide)
      have d := hR.mDe (f := f) (f2 := mIs i j w (a 85)) (by rw [hf, e]; exact inB_upd (k4.cpy k2) (by omega)) (by rw [hf]; exact (k5.cpy k2).put k2 hi hj hij)
      exact fiI h' hX1 (k5 _ hi _ hj) d.2.2.2 rfl d.1
theorem pr_place : PrI G mX9_place mX10_place 2 3 [.int x, .int y, .int w] := by
  intro σ ⟨A, B, C, I, H, T, D, z, a, tb, hX, hM, hR⟩
  obtain ⟨k1, k2, -, k4, k5⟩ := hR.1
  refine ConP.mono (x_place hX) (fun v σ1 h => ?_)
  rcases h with ⟨hc, rfl, hX1, hh⟩ | ⟨i, rfl, hi, hy, hw, rfl, hX1, hh⟩
  · refine stI hh hM (ConP.mono (m_place k1 k2) (fun v' σ2 h' => ?_))
    rcases h' with ⟨_, h'⟩ | ⟨i, rfl, hi, hy, hw, _⟩
    · exact fiI h' hX1 rfl rfl rfl hR
    · exact absurd ⟨by rw [nI_e (by omega)]; omega, hy, hw⟩ hc
  · refine stI hh hM (ConP.mono (m_place k1 k2) (fun v' σ2 h' => ?_))
    rcases h' with ⟨q, _⟩ | ⟨i2, e1, hi2, _, _, h'⟩
    · exact absurd ⟨by rw [nI_e (by omega)]; omega, hy, hw⟩ q
    · have e1' := nI_inj6 (by omega) (by omega) e1
      subst e1'
      obtain ⟨r1, r2, r3, r4, ⟨sz, r5⟩, r6, r7⟩ := hR
      obtain ⟨p1, p2, -⟩ := r2 i (by omega)
      refine fiI h' hX1 (by rw [p1, p2]) rfl rfl ?_
      refine ⟨?_, ?_, ?_, r4.congr (fun q x y => ?_) rfl rfl, ⟨sz, r5.congr (fun q x y => ?_)⟩, r6, ?_⟩
      · rw [up_n (by decide), up_n (by decide)]
        exact r1
      · rw [up_s, up_n (by decide), up_s]
        intro p hp
        obtain ⟨u, hu, eu⟩ := nI_in0 (n := 100) hy.1 (by omega) (by decide)
        obtain ⟨t, ht, et⟩ := nI_in0 (n := 100) hw.1 (by omega) (by decide)
        by_cases e : p = i
        · subst e
          dsimp only
          rw [upd_s, upd_s, upd_s, upd_s]
          exact ⟨rfl, rfl, fun q => by omega, ⟨u, by omega, eu⟩, ⟨t, by omega, et⟩⟩
        · dsimp only
          rw [upd_n e, upd_n e, upd_n e, upd_n e]
          exact r2 p hp
      · rw [up_n (by decide), up_n (by decide), up_n (by decide), up_n (by decide)]
        exact r3
      · rw [up_n (by omega), up_n (by omega)]
      · rw [up_n (by omega), up_n (by omega)]
      · rw [up_n (by decide), up_n (by decide)]
        exact r7
/-- a distance of inB as a natural -/
theorem inB_at {N : Nat} {far : Nat → Int32} (h6 : N ≤ 6) (hb : inB N far) {i j : Nat} (hi : i < N) (hj : j < N) : ∃ d, d ≤ 999 ∧ dT N far i j = nI d := by
  by_cases e : i = j
  · exact ⟨0, by omega, by rw [e, dT_self]; rfl⟩
  · by_cases o : i < j
    · exact inB_val h6 hb o hj
    · rw [dT_comm]
      exact inB_val h6 hb (by omega) hi
theorem inB_of {N : Nat} {far : Nat → Int32} (h6 : N ≤ 6) (h : ∀ i j, i < j → j < N → ∃ d, d ≤ 999 ∧ dT N far i j = nI d) : inB N far := by
  intro p hp
  obtain ⟨i, hi, j, hj, hij, rfl⟩ := pI_sur N (by omega) p hp
  obtain ⟨d, hd, e⟩ := h i j hij hj
  rw [dT_lt hi hj (by omega)] at e
  rw [e, nI_e (by omega)]
  omega
theorem inB_sho {N : Nat} {far : Nat → Int32} (h6 : N ≤ 6) (hb : inB N far) : inB N (sho N far) := by
  have := upn_inv (f := sho3 N) (fun _ g => inB N g) N 0 far ?_ hb
  · exact this
  · intro s g _ hs hg
    refine inB_of h6 (fun i j hij hj => ?_)
    rw [c_round h6 (by omega) hij hj]
    obtain ⟨d1, h1, e1⟩ := inB_at h6 hg (i := i) (j := j) (by omega) hj
    obtain ⟨d2, h2, e2⟩ := inB_at h6 hg (i := i) (j := s) (by omega) (by omega)
    obtain ⟨d3, h3, e3⟩ := inB_at h6 hg (i := s) (j := j) (by omega) hj
    unfold mn
    rw [e1, e2, e3, nI_add]
    by_cases q : d2 + d3 < d1
    · rw [if_pos (nI_lt q (by omega))]
      exact ⟨d2 + d3, by omega, rfl⟩
    · rw [if_neg (nI_nlt (by omega) (by omega))]
      exact ⟨d1, h1, rfl⟩
theorem pr_paths : PrI G mX9_paths mX10_paths 4 3 [] := by
  intro σ ⟨A, B, C, I, H, T, D, z, a, tb, hX, hM, hR⟩
  obtain ⟨k1, k2, -, k4, k5⟩ := hR.1
  have hD := hR.2.2.1.2.1
  refine ConP.mono (x_paths hX) (fun v σ1 h => ?_)
  obtain ⟨g, f, hf, rfl, hX1, hh⟩ := h
  refine stI hh hM (ConP.mono (m_paths k1 k2 hD) (fun v' σ2 h' => ?_))
  have d := hR.mDe (f := f) (f2 := mPa A.1 (a 85)) (by rw [hf]; exact inB_sho k2 (k4.cpy k2)) (by rw [hf]; exact r_paths k2 (k5.cpy k2))
  exact fiI h' hX1 d.2.1.symm d.2.2.2 rfl d.1
theorem ab_off {u v : Nat} (hu : u ≤ 99) (hv : v ≤ 99) : ab (nI u - nI v) = mOff (nI u) (nI v) ∧ ∃ d, d ≤ 99 ∧ mOff (nI u) (nI v) = nI d := by
  unfold ab mOff
  by_cases h : u < v
  · rw [if_pos (nI_lt h (by omega)), show nI v - nI u = nI (v - u) from pk_sub (by omega)]
    have e : nI u - nI v = -(nI (v - u)) := by
      rw [← show nI v - nI u = nI (v - u) from pk_sub (by omega)]
      exact Int32.neg_sub.symm
    have : ¬ (0 ≤ nI u - nI v) := by
      rw [e, iLe, i0, Int32.toInt_neg, nI_e (by omega), bm32 (by omega) (by omega)]
      omega
    rw [if_neg this, e]
    exact ⟨by rw [Int32.sub_neg, Int32.zero_add], v - u, by omega, rfl⟩
  · rw [if_neg (nI_nlt (by omega) (by omega)), show nI u - nI v = nI (u - v) from pk_sub (by omega), if_pos (by rw [iLe, i0, nI_e (by omega)]; omega)]
    exact ⟨rfl, u - v, by omega, rfl⟩
theorem pr_town : PrI G mX9_town mX10_town 4 3 [] := by
  intro σ ⟨A, B, C, I, H, T, D, z, a, tb, hX, hM, hR⟩
  obtain ⟨k1, k2, -, k4, k5⟩ := hR.1
  have hD := hR.2.2.1.2.1
  have hP := hR.2.1
  refine ConP.mono (x_town hX) (fun v σ1 h => ?_)
  obtain ⟨g, f, hf, rfl, hX1, hh⟩ := h
  refine stI hh hM (ConP.mono (m_town k1 k2 hD) (fun v' σ2 h' => ?_))
  have one : ∀ i j, i < j → j < A.1 → ab (B.1 i - B.1 j) + ab (B.2 i - B.2 j) = mOff (a 86 i) (a 86 j) + mOff (a 87 i) (a 87 j) ∧ ∃ d, d ≤ 999 ∧ ab (B.1 i - B.1 j) + ab (B.2 i - B.2 j) = nI d := by
    intro i j hij hj
    obtain ⟨p1, p2, -, ⟨u1, hu1, e1⟩, ⟨u2, hu2, e2⟩⟩ := hP i (by omega)
    obtain ⟨q1, q2, -, ⟨v1, hv1, f1⟩, ⟨v2, hv2, f2⟩⟩ := hP j (by omega)
    rw [p1, p2, q1, q2, e1, e2, f1, f2, (ab_off hu1 hv1).1, (ab_off hu2 hv2).1]
    obtain ⟨d1, hd1, g1⟩ := (ab_off hu1 hv1).2
    obtain ⟨d2, hd2, g2⟩ := (ab_off hu2 hv2).2
    exact ⟨rfl, d1 + d2, by omega, by rw [g1, g2, nI_add]⟩
  have hin : inB A.1 f := by
    rw [hf]
    unfold xTo
    refine dbl_inv (fun g => inB A.1 g) (f := fun i j g => xTo1 A.1 B i j g) (fun i j g hij hj hg => ?_) (k4.cpy k2)
    obtain ⟨d, hd, e⟩ := (one i j hij hj).2
    unfold xTo1
    rw [e]
    exact inB_upd hg hd
  have d := hR.mDe (f := f) (f2 := mTo A.1 (a 86) (a 87) (a 85)) hin (by rw [hf]; exact r_town k2 (fun i j h1 h2 => (one i j h1 h2).1) (k5.cpy k2))
  exact fiI h' hX1 d.2.1.symm d.2.2.2 rfl d.1
theorem pr_cut : PrI G mX9_cut mX10_cut 5 4 [.int x, .int w] := by
  intro σ ⟨A, B, C, I, H, T, D, z, a, tb, hX, hM, hR⟩
  obtain ⟨k1, k2, -, k4, k5⟩ := hR.1
  have hD := hR.2.2.1.2.1
  have hl := lC_le k1 k2
  refine ConP.mono (x_cut hX) (fun v σ1 h => ?_)
  rcases h with ⟨hc, rfl, hX1, hh⟩ | ⟨hx, hw, g, f, hf, h⟩
  · refine stI hh hM (ConP.mono (m_cut k1 k2 hD) (fun v' σ2 h' => ?_))
    rcases h' with ⟨_, h'⟩ | ⟨q1, q2, _⟩ | ⟨q1, q2, _⟩
    · exact fiI h' hX1 rfl rfl rfl hR
    · exact absurd ⟨q1, q2⟩ hc
    · exact absurd ⟨q1, q2⟩ hc
  · obtain ⟨s, hs, rfl⟩ := nI_in0 (n := 32) (x := x) (by omega) (by omega) (by decide)
    have iff := r_cutOk (w := w) k1 k2 hs (k4.cpy (g := g) k2) (k5.cpy k2)
    rw [← hf] at iff
    rcases h with ⟨hn, rfl, hX1, hh⟩ | ⟨hn, rfl, hX1, hh⟩
    · refine stI hh hM (ConP.mono (m_cut k1 k2 hD) (fun v' σ2 h' => ?_))
      rcases h' with ⟨q, _⟩ | ⟨_, _, _, h'⟩ | ⟨_, _, q, _⟩
      · exact absurd ⟨hx, hw⟩ q
      · exact fiI h' hX1 rfl rfl rfl hR
      · exact absurd (iff.mpr q) hn
    · refine stI hh hM (ConP.mono (m_cut k1 k2 hD) (fun v' σ2 h' => ?_))
      rcases h' with ⟨q, _⟩ | ⟨_, _, q, _⟩ | ⟨_, _, _, h'⟩
      · exact absurd ⟨hx, hw⟩ q
      · exact absurd (iff.mp hn) q
      · have d := hR.mDe (f := f) (f2 := mCut A.1 (nI s) w (a 85)) hn (by rw [hf]; exact r_cut k1 k2 hs (k5.cpy k2))
        refine fiI h' hX1 ?_ d.2.2.2 rfl d.1
        have d1 := d.1.1
        rw [d.2.2.2] at d1
        rw [d.2.2.2]
        exact (r_tot k1 k2 d1.2.2.2.2).symm
theorem pr_stretch : PrI G mX9_stretch mX10_stretch 5 3 [.int x] := by
  intro σ ⟨A, B, C, I, H, T, D, z, a, tb, hX, hM, hR⟩
  obtain ⟨k1, k2, -, k4, k5⟩ := hR.1
  have hD := hR.2.2.1.2.1
  refine ConP.mono (x_stretch hX) (fun v σ1 h => ?_)
  rcases h with ⟨hc, rfl, hX1, hh⟩ | ⟨hx, g, f, hf, h⟩
  · refine stI hh hM (ConP.mono (m_stretch k1 k2 hD) (fun v' σ2 h' => ?_))
    rcases h' with ⟨_, h'⟩ | ⟨q1, _⟩ | ⟨q1, _⟩
    · exact fiI h' hX1 rfl rfl rfl hR
    · exact absurd q1 hc
    · exact absurd q1 hc
  · obtain ⟨k, hk, rfl⟩ := nI_in0 (n := 100) (x := x) hx.1 (by omega) (by decide)
    have iff := r_strOk (k := k) k1 k2 (by omega) (k4.cpy (g := g) k2) (k5.cpy k2)
    rw [← hf] at iff
    rcases h with ⟨hn, rfl, hX1, hh⟩ | ⟨hn, rfl, hX1, hh⟩
    · refine stI hh hM (ConP.mono (m_stretch k1 k2 hD) (fun v' σ2 h' => ?_))
      rcases h' with ⟨q, _⟩ | ⟨_, _, h'⟩ | ⟨_, q, _⟩
      · exact absurd hx q
      · exact fiI h' hX1 rfl rfl rfl hR
      · exact absurd (iff.mpr q) hn
    · refine stI hh hM (ConP.mono (m_stretch k1 k2 hD) (fun v' σ2 h' => ?_))
      rcases h' with ⟨q, _⟩ | ⟨_, q, _⟩ | ⟨_, _, h'⟩
      · exact absurd hx q
      · exact absurd (iff.mp hn) q
      · have d := hR.mDe (f := f) (f2 := mSt A.1 (nI k) (a 85)) hn (by rw [hf]; exact r_str k1 k2 (k5.cpy k2))
        refine fiI h' hX1 ?_ d.2.2.2 rfl d.1
        have d1 := d.1.1
        rw [d.2.2.2] at d1
        rw [d.2.2.2]
        exact (r_tot k1 k2 d1.2.2.2.2).symm
theorem pr_back : PrI G mX9_back mX10_back 3 2 [] := by
  intro σ ⟨A, B, C, I, H, T, D, z, a, tb, hX, hM, hR⟩
  obtain ⟨k1, k2, -, k4, k5⟩ := hR.1
  obtain ⟨r1, r2, r3, r4, ⟨sz, r5⟩, r6, r7⟩ := id hR
  refine ConP.mono (x_back hX) (fun v σ1 h => ?_)
  have hDC := r3.1
  rcases h with ⟨hc, rfl, hX1, hh⟩ | ⟨hc, rfl, hX1, hh⟩
  · refine stI hh hM (ConP.mono (m_back0 (by omega)) (fun v' σ2 h' => ?_))
    exact fiI h' hX1 rfl rfl rfl hR
  · obtain ⟨p1, p2⟩ := r3.pop (by omega)
    obtain ⟨u1, u2, u3, u4, u5⟩ := p2
    refine stI hh hM (ConP.mono (m_back r3.2.1 (by omega) u3 u2) (fun v' σ2 h' => ?_))
    refine fiI h' hX1 (by rw [hDC]) rfl rfl ?_
    unfold mBk
    refine ⟨⟨u1, u2, rfl, u4.cpy u2, ?_⟩, ?_, ?_, r4.congr (fun q x y => ?_) rfl rfl, ⟨sz, r5.congr (fun q x y => ?_)⟩, r6, ?_⟩
    · rw [up_s]
      refine (u5.cpy u2).congr u2 (fun t ht => ?_)
      have := upn_at (g := fun i _ => a 89 (36 * (D - 1) + i)) 36 0 (a 85) t
      rw [if_pos (by omega)] at this
      exact this
    · rw [up_n (by decide), up_n (by decide), up_s, up_n (by decide), up_s]
      exact r2.clear u2
    · rw [up_n (by decide), up_n (by decide), up_n (by decide), up_n (by decide), up_n (by decide), up_n (by decide)]
      exact p1
    · rw [up_n (by omega), up_n (by omega), up_n (by omega)]
    · rw [up_n (by omega), up_n (by omega), up_n (by omega)]
    · rw [up_n (by decide), up_n (by decide), up_n (by decide)]
      exact r7
theorem pr_triangles : PrI G mX9_triangles mX10_triangles 4 2 [.int x] := by
  intro σ ⟨A, B, C, I, H, T, D, z, a, tb, hX, hM, hR⟩
  obtain ⟨k1, k2, -, k4, k5⟩ := hR.1
  refine ConP.mono (x_triangles hX) (fun v σ1 ⟨hv, hX1, hh⟩ => ?_)
  subst hv
  refine stI hh hM (ConP.mono (m_triangles k1 k2) (fun v' σ2 h' => ?_))
  have e := r_triangles k2 k5
  exact fiI h' hX1 (by rw [e.1, e.2]) rfl rfl hR
theorem pr_rounds : PrI G mX9_rounds mX10_rounds 4 2 [.int x] := by
  intro σ ⟨A, B, C, I, H, T, D, z, a, tb, hX, hM, hR⟩
  obtain ⟨k1, k2, -, k4, k5⟩ := hR.1
  refine ConP.mono (x_rounds hX) (fun v σ1 ⟨hv, hX1, hh⟩ => ?_)
  subst hv
  refine stI hh hM (ConP.mono (m_rounds k1 k2) (fun v' σ2 h' => ?_))
  have e := r_rounds k2 k4 k5
  exact fiI h' hX1 (by rw [e.1, e.2]) rfl rfl hR
end PR1
