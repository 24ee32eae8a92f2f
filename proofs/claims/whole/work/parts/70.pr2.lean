/-! both: texts, sums, gauges, the image -/
section PR2
variable {G : GT} {x y w : Int32} {A : XA} {B : XB} {C : XC} {I : XI} {H : XH} {T : XT} {D : Nat} {z z' : Nat → Int32} {a a' : Nat → Nat → Int32}
theorem Rel.tape {T2 : XT} (h : Rel A B C I H T D z a) (h1 : T2.1 ≤ 80) (h2 : ∀ k, k < T2.1 → T2.2 k = a' 90 k) (ha : ∀ q, 85 ≤ q → q < 97 → q ≠ 90 → a' q = a q) (e1 : z' 12 = z 12) (e2 : z' 13 = z 13) : Rel A B C I H T2 D z' a' := by
  obtain ⟨r1, r2, r3, r4, ⟨sz, r5⟩, r6, r7⟩ := h
  refine ⟨?_, ?_, ?_, r4.congr (fun q x y => ha q (by omega) (by omega) (by omega)) e1 e2, ⟨sz, r5.congr (fun q x y => ha q (by omega) (by omega) (by omega))⟩, h1, h2⟩
  · rw [ha 85 (by decide) (by decide) (by decide)]; exact r1
  · rw [ha 86 (by decide) (by decide) (by decide), ha 87 (by decide) (by decide) (by decide)]; exact r2
  · rw [ha 88 (by decide) (by decide) (by decide), ha 89 (by decide) (by decide) (by decide)]; exact r3
theorem pr_sum : PrI G mX9_sum mX10_sum 5 37 [.int x, .int y] := by
  intro σ ⟨A, B, C, I, H, T, D, z, a, tb, hX, hM, hR⟩
  obtain ⟨k1, k2, -, k4, k5⟩ := hR.1
  have hl := lC_le k1 k2
  have lf : lfOk A.1 (cpA 36 (a 85) (a 100)) := by
    intro i hi j hj hij
    have hp := (pI_lt0 A.1 (by omega) i hi j hj (by omega)).1
    rw [cpA_at (by omega), k5.at hij hj]
    exact k4 _ hp
  refine ConP.mono (x_sum hX) (fun v σ1 h => ?_)
  rcases h with ⟨hc, rfl, hX1, hh⟩ | ⟨mo, rfl, h1, h2, hy, w0, R, hR0, rfl, hX1, hh⟩
  · refine stI hh hM (ConP.mono (m_sum k1 k2 lf) (fun v' σ2 h' => ?_))
    rcases h' with ⟨_, h'⟩ | ⟨mo, rfl, h1, h2, hy, _⟩
    · exact fiI h' hX1 rfl rfl rfl hR
    · exact absurd ⟨by rw [nI_e (by omega)]; omega, hy⟩ hc
  · refine stI hh hM (ConP.mono (m_sum k1 k2 lf) (fun v' σ2 h' => ?_))
    rcases h' with ⟨q, _⟩ | ⟨mo2, e, _, _, _, z2, a2, h', hz, ha⟩
    · exact absurd ⟨by rw [nI_e (by omega)]; omega, hy⟩ q
    · have e' : mo = mo2 := by
        rw [iEq, nI_e (by omega), nI_e (by omega)] at e
        omega
      subst e'
      refine fiI h' hX1 ?_ rfl rfl (hR.free (fun q x y => ha q (by omega) (by omega)) (hz 12 (by decide) (by decide) (by decide)) (hz 13 (by decide) (by decide) (by decide)))
      rw [hR0]
      exact (r_sum (g := a 100) (nu := a 101) (w := w0) (y := y) k1 k2 (by omega) k4 k5 hy.1 hy.2).symm
theorem pr_gauge : PrL G mX9_gauge mX10_gauge 5 2 [.int x, .int y] := by
  intro σ ⟨A, B, C, I, H, T, D, z, a, tb, hX, hM, hR⟩
  obtain ⟨k1, k2, -, k4, k5⟩ := hR.1
  refine ConP.mono (x_gauge hX) (fun v σ1 ⟨hv, hσ⟩ => ?_)
  subst hv hσ
  refine stL hi.rfl' hM (ConP.mono (m_gauge k1 k2) (fun v' σ2 h' => ?_))
  refine fiL h' hX ?_ rfl rfl hR
  by_cases hc : (0 ≤ x.toInt ∧ x.toInt ≤ 4) ∧ (0 ≤ y.toInt ∧ y.toInt < (2 ^ A.1 : Nat))
  · rw [if_pos hc, if_pos hc]
    exact (r_gauge k2 k4 k5 hc.2.1 hc.2.2).symm
  · rw [if_neg hc, if_neg hc]
theorem fd_rel {v : Int32} : ∀ k (S : Nat) (b c : Nat → Int32), (∀ j, j < S → b j = c j) → (xFd v k (S, b)).1 = S + k ∧ (fd v k (c, S)).2 = S + k ∧ ∀ j, j < S + k → (xFd v k (S, b)).2 j = (fd v k (c, S)).1 j := by
  intro k
  induction k with
  | zero => intro S b c h; exact ⟨rfl, rfl, h⟩
  | succ k ih =>
    intro S b c h
    have := ih (S + 1) (upd b S (fdB v k)) (upd c S (fdB v k)) (fun j hj => by
      by_cases e : j = S
      · rw [e, upd_s, upd_s]
      · rw [upd_n e, upd_n e]; exact h j (by omega))
    rw [show S + (k + 1) = S + 1 + k by omega]
    exact this
theorem pr_feed : PrI G mX9_feed mX10_feed 2 2 [.int x, .int y] := by
  intro σ ⟨A, B, C, I, H, T, D, z, a, tb, hX, hM, hR⟩
  have h6 := hR.2.2.2.2.2.1
  have h7 := hR.2.2.2.2.2.2
  refine ConP.mono (x_feed hX h6) (fun v σ1 h => ?_)
  rcases h with ⟨hc, rfl, hX1, hh⟩ | ⟨n, rfl, h1, h4, h⟩
  · refine stI hh hM (ConP.mono (m_feed h6) (fun v' σ2 h' => ?_))
    rcases h' with ⟨_, h'⟩ | ⟨n, rfl, h1, h4, _⟩
    · exact fiI h' hX1 rfl rfl rfl hR
    · exact absurd (by rw [nI_e (by omega)]; omega) hc
  · have hcc : 1 ≤ (nI n).toInt ∧ (nI n).toInt ≤ 4 := by rw [nI_e (by omega)]; omega
    rcases h with ⟨hf, rfl, hX1, hh⟩ | ⟨hf, rfl, hX1, hh⟩
    · refine stI hh hM (ConP.mono (m_feed h6) (fun v' σ2 h' => ?_))
      rcases h' with ⟨q, _⟩ | ⟨n2, e, _, _, h'⟩
      · exact absurd hcc q
      · have e' := nI_inj6 (by omega) (by omega) e
        subst e'
        rcases h' with ⟨_, h'⟩ | ⟨q, _⟩
        · exact fiI h' hX1 rfl rfl rfl hR
        · omega
    · refine stI hh hM (ConP.mono (m_feed h6) (fun v' σ2 h' => ?_))
      rcases h' with ⟨q, _⟩ | ⟨n2, e, _, _, h'⟩
      · exact absurd hcc q
      · have e' := nI_inj6 (by omega) (by omega) e
        subst e'
        rcases h' with ⟨q, _⟩ | ⟨_, h'⟩
        · omega
        · obtain ⟨f1, f2, f3⟩ := fd_rel (v := x) n T.1 T.2 (a 90) h7
          have f1' : (xFd x n T).1 = T.1 + n := f1
          refine fiI h' hX1 (by rw [f1', f2]) rfl (by rw [f1', f2]) (hR.tape (by rw [f1']; exact hf) ?_ (fun q _ _ hq => up_n hq) rfl rfl)
          rw [f1', up_s]
          exact f3
theorem pr_wipe : PrI G mX9_wipe mX10_wipe 1 1 [] := by
  intro σ ⟨A, B, C, I, H, T, D, z, a, tb, hX, hM, hR⟩
  refine ConP.mono (x_wipe hX) (fun v σ1 ⟨hv, hX1, hh⟩ => ?_)
  subst hv
  refine stI hh hM (ConP.mono m_wipe (fun v' σ2 h' => ?_))
  exact fiI h' hX1 rfl rfl rfl (hR.tape (Nat.zero_le 80) (fun k hk => absurd hk (Nat.not_lt_zero _)) (fun q _ _ _ => rfl) rfl rfl)
theorem pr_spell : PrI G mX9_spell mX10_spell 4 3 [.int x] := by
  intro σ ⟨A, B, C, I, H, T, D, z, a, tb, hX, hM, hR⟩
  obtain ⟨k1, k2, -, k4, k5⟩ := hR.1
  refine ConP.mono (x_spell hX) (fun v σ1 h => ?_)
  rcases h with ⟨hc, rfl, hX1, hh⟩ | ⟨hc, sb, rfl, hX1, hh⟩
  · refine stI hh hM (ConP.mono (m_spell k1 k2) (fun v' σ2 h' => ?_))
    rcases h' with ⟨_, h'⟩ | ⟨q, _⟩
    · exact fiI h' hX1 rfl rfl rfl hR
    · omega
  · refine stI hh hM (ConP.mono (m_spell k1 k2) (fun v' σ2 h' => ?_))
    rcases h' with ⟨q, _⟩ | ⟨_, h'⟩
    · omega
    · obtain ⟨s1, s2⟩ := r_spell (sb := sb) (ln := a 103) k2 k5
      refine fiI h' hX1 ?_ rfl rfl (hR.free (fun q x y => up_n (by omega)) (up_n (by decide)) (up_n (by decide)))
      rw [s1]
      by_cases e1 : x.toInt < 0
      · rw [if_pos e1, if_pos e1]
      · rw [if_neg e1, if_neg e1]
        by_cases e2 : x.toInt < (wMi A.1 (a 85) (a 103)).2
        · rw [if_pos e2, if_pos e2, s2 _ (by omega)]
        · rw [if_neg e2, if_neg e2]
theorem prs_le {N S : Nat} {b g : Nat → Int32} (h1 : 1 ≤ S) : (prs N S b g).2.1 ≤ S := by
  refine upn_inv (f := pr2 N S b) (fun _ (s : PS) => s.2.1 ≤ S) (N - 1) 1 (zf 15 g, 1, false) (fun i s _ _ hs => ?_) h1
  refine upn_inv (f := pr1 N S b i) (fun _ (s : PS) => s.2.1 ≤ S) i 0 s (fun j s _ _ hs => ?_) hs
  unfold pr1
  by_cases c1 : s.2.2 = true
  · rw [if_pos c1]; exact hs
  · rw [if_neg c1]
    by_cases c2 : bA S b s.2.1 = (if j = 0 then nI 59 else nI 44)
    · rw [if_pos c2]
      have lt := bA_lt c2 (by split <;> decide)
      by_cases c3 : fA S b (s.2.1 + 1) < 0
      · rw [if_pos c3]; exact lt
      · rw [if_neg c3]
        exact tF_le 3 _ _ lt
    · rw [if_neg c2]; exact hs
theorem pr_read : PrI G mX9_read mX10_read 6 3 [] := by
  intro σ ⟨A, B, C, I, H, T, D, z, a, tb, hX, hM, hR⟩
  obtain ⟨k1, k2, -, k4, k5⟩ := hR.1
  have h6 := hR.2.2.2.2.2.1
  have h7 := hR.2.2.2.2.2.2
  have hD := hR.2.2.1.2.1
  have eb : bA T.1 T.2 = bA T.1 (a 90) := bA_eq h7
  have ez : ∀ (s : PS), Rel A B C I H (0, T.2) D (va_up (va_up (va_up z 27 (nI T.1)) 26 (nI s.2.1)) 28 (bI (s.2.2 = true))) (va_up a 102 s.1) := fun s => hR.tape (Nat.zero_le 80) (fun k hk => absurd hk (Nat.not_lt_zero _)) (fun q _ _ _ => up_n (by omega)) (by rw [up_n (by decide), up_n (by decide), up_n (by decide)]) (by rw [up_n (by decide), up_n (by decide), up_n (by decide)])
  have fof : ∀ P, P ≤ 9 → bA T.1 T.2 0 = nI (48 + P) → fA T.1 T.2 0 = nI P := by
    intro P hP e
    have hd : dg (bA T.1 T.2 0) := by rw [e]; exact ⟨by rw [nI_e (by omega)]; omega, by rw [nI_e (by omega)]; omega⟩
    obtain ⟨c, hc, e1, e2⟩ := fA_dg hd
    rw [e] at e1
    have := nI_inj6 (by omega) (by omega) e1
    rw [e2, show c = P by omega]
  refine ConP.mono (x_read hX h6) (fun v σ1 h => ?_)
  by_cases hb : 50 ≤ (bA T.1 (a 90) 0).toInt ∧ (bA T.1 (a 90) 0).toInt ≤ 54
  · obtain ⟨u, hu, e⟩ := nI_in0 (n := 55) (x := bA T.1 (a 90) 0) (by omega) (by omega) (by decide)
    have hu2 : 50 ≤ u := by rw [e, nI_e (by omega)] at hb; omega
    obtain ⟨P, rfl⟩ : ∃ P, u = 48 + P := ⟨u - 48, by omega⟩
    have ef := fof P (by omega) (by rw [eb]; exact e)
    have hS : 1 ≤ T.1 := by
      have := bA_lt e (by rw [Ne, iEq, im1, nI_e (by omega)]; omega)
      omega
    rcases h with ⟨q, _⟩ | ⟨N, g, f, eN, hN, hN6, hf, h⟩
    · rw [ef] at q
      rcases q with q | q
      · rw [iLt, nI_e (by omega), nI_e (by omega)] at q; omega
      · rw [iLt, nI_e (by omega), nI_e (by omega)] at q; omega
    · have eP : P = N := nI_inj6 (by omega) (by omega) (ef.symm.trans eN)
      subst eP
      have rp := r_read (N := P) (S := T.1) (b1 := T.2) (b2 := a 90) (g := g) (t := a 102) hN6 h7
      rw [← hf] at rp
      obtain ⟨rp1, rp2⟩ := rp
      have hle : f.2.1 ≤ T.1 := by rw [hf]; exact prs_le hS
      have m2 := m_read (G := G) (σ := σ1) (z := z) (a := a) (tb := tb) (D := D) k1 k2 h6 hD hN hN6 e
      rw [← rp1] at m2
      rcases h with ⟨hn, rfl, hX1, hh⟩ | ⟨hn, rfl, hX1, hh⟩
      · refine stI hh hM (ConP.mono m2 (fun v' σ2 h' => ?_))
        have key : prA T.1 f = nI f.2.1 := by
          unfold prA at hn ⊢
          by_cases c1 : f.2.2 = true
          · rw [if_pos c1]
          · rw [if_neg c1] at hn ⊢
            by_cases c2 : f.2.1 < T.1
            · rw [if_pos c2]
            · rw [if_neg c2] at hn
              exact absurd (by decide) hn
        rcases h' with ⟨_, h'⟩ | ⟨q1, q2, _⟩
        · unfold stR at h'
          exact fiI h' hX1 (by rw [key]) rfl rfl (ez _)
        · unfold prA at hn
          rw [if_neg (by rw [q1]; decide), if_neg (by omega)] at hn
          exact absurd (by decide) hn
      · have q1 : f.2.2 = false := by
          unfold prA at hn
          cases c : f.2.2 with
          | false => rfl
          | true =>
            rw [if_pos c, iLt, i0, nI_e (by omega)] at hn
            omega
        have q2 : f.2.1 = T.1 := by
          unfold prA at hn
          rw [if_neg (by rw [q1]; decide)] at hn
          by_cases c : f.2.1 < T.1
          · rw [if_pos c, iLt, i0, nI_e (by omega)] at hn; omega
          · omega
        refine stI hh hM (ConP.mono m2 (fun v' σ2 h' => ?_))
        rcases h' with ⟨q, _⟩ | ⟨_, _, z', hz, h'⟩
        · rcases q with q | q
          · rw [q1] at q; exact absurd q (by decide)
          · exact absurd q2 q
        · obtain ⟨hF, hB⟩ := rp2 q1
          generalize ht : (mrA P T.1 (a 90) (a 102)).1 = t at *
          have e85 : (mRdA P a t) 85 = cpA 36 t (a 85) := up_s
          have e97 : (mRdA P a t) 97 = cpA 36 (a 85) (a 97) := by
            unfold mRdA
            rw [up_n (by decide), up_n (by decide), up_n (by decide)]
            unfold mAh
            rw [up_s, up_n (by decide), up_n (by decide)]
          have d := hR.deed (M := P) (a1 := mRdA P a t) (z1 := va_up z 18 (nI A.1)) (z' := z') (f := f.1) hN hN6 hB (by rw [e85]; exact hF.congr hN6 (fun k hk => cpA_at hk)) up_s (by rw [e97]; exact k5.congr k2 (fun k hk => cpA_at hk)) (fun p hp => by
            unfold mRdA
            rw [up_n (by decide), up_n (by decide), up_s, up_n (by decide), up_s]
            exact ⟨clF_at hp hN6, clF_at hp hN6⟩) (fun q x y => by
            unfold mRdA mAh
            rw [up_n (by omega), up_n (by omega), up_n (by omega), up_n (by omega), up_n (by omega)]) (hz 12 (by decide) (by decide) (by decide) (by decide)) (hz 13 (by decide) (by decide) (by decide) (by decide))
          exact fiI h' hX1 (by rw [d.2.2.2]) d.2.2.2 rfl (d.1.tape (Nat.zero_le 80) (fun k hk => absurd hk (Nat.not_lt_zero _)) (fun q _ _ _ => rfl) rfl rfl)
  · rcases h with ⟨q, rfl, hX1, hh⟩ | ⟨N, g, f, eN, hN, hN6, hf, h⟩
    · refine stI hh hM (ConP.mono (m_readBad0 k2 h6 hb) (fun v' σ2 h' => ?_))
      unfold stR at h'
      exact fiI h' hX1 rfl rfl rfl (ez _)
    · exfalso
      have hd : dg (bA T.1 T.2 0) := Classical.byContradiction (fun q => by
        rw [fA_nd q, iEq, im1, nI_e (by omega)] at eN
        omega)
      obtain ⟨c, hc, e1, e2⟩ := fA_dg hd
      rw [eN] at e2
      have := nI_inj6 (by omega) (by omega) e2
      rw [← eb, e1, nI_e (by omega)] at hb
      omega
theorem pr_image : PrI G mX9_image mX10_image 2 2 [] := by
  intro σ ⟨A, B, C, I, H, T, D, z, a, tb, hX, hM, hR⟩
  obtain ⟨k1, k2, -, k4, k5⟩ := hR.1
  obtain ⟨r1, r2, r3, r4, ⟨sz, r5⟩, r6, r7⟩ := hR
  refine ConP.mono (x_image hX) (fun v σ1 ⟨hv, hX1, hh⟩ => ?_)
  subst hv
  refine stI hh hM (ConP.mono m_image (fun v' σ2 h' => ?_))
  refine fiI h' hX1 rfl rfl rfl ⟨?_, ?_, ?_, Or.inr ⟨rfl, ?_, ?_, ?_⟩, ⟨sz, r5.congr (fun q x y => ?_)⟩, r6, ?_⟩
  · rw [up_n (by decide), up_n (by decide), up_n (by decide)]; exact r1
  · rw [up_n (by decide), up_n (by decide), up_n (by decide), up_n (by decide), up_n (by decide), up_n (by decide)]; exact r2
  · rw [up_n (by decide), up_n (by decide), up_n (by decide), up_n (by decide), up_n (by decide), up_n (by decide)]; exact r3
  · rw [up_n (by decide), up_s]; rfl
  · rw [up_s, up_n (by decide), up_n (by decide), up_s]
    exact ⟨k1, k2, rfl, k4.cpy k2, (k5.cpy k2).congr k2 (fun t ht => cpA_at ht)⟩
  · rw [up_n (by decide), up_s, up_s]
    exact r2.congr (fun p hp => cpy_at hp) (fun p hp => cpy_at hp) (fun p hp => cpA_at hp) (fun p hp => cpA_at hp)
  · rw [up_n (by omega), up_n (by omega), up_n (by omega)]
  · rw [up_n (by decide), up_n (by decide), up_n (by decide)]; exact r7
theorem pr_undo : PrI G mX9_undo mX10_undo 2 2 [] := by
  intro σ ⟨A, B, C, I, H, T, D, z, a, tb, hX, hM, hR⟩
  obtain ⟨r1, r2, r3, r4, ⟨sz, r5⟩, r6, r7⟩ := id hR
  refine ConP.mono (x_undo hX) (fun v σ1 h => ?_)
  rcases h with ⟨hc, rfl, hX1, hh⟩ | ⟨hc, rfl, hX1, hh⟩
  · rcases r4 with ⟨_, i2⟩ | ⟨i1, _⟩
    · refine stI hh hM (ConP.mono (m_undo0 i2) (fun v' σ2 h' => ?_))
      exact fiI h' hX1 rfl rfl rfl hR
    · rw [hc] at i1; exact absurd i1 (by decide)
  · rcases r4 with ⟨i1, _⟩ | ⟨i1, i2, ⟨j1, j2, j3, j4, j5⟩, i4⟩
    · exact absurd i1 hc
    · refine stI hh hM (ConP.mono (m_undo (by rw [i2]; decide) j3) (fun v' σ2 h' => ?_))
      refine fiI h' hX1 rfl rfl rfl ⟨?_, ?_, ?_, Or.inr ⟨i1, i2, ?_, ?_⟩, ⟨sz, r5.congr (fun q x y => ?_)⟩, r6, ?_⟩
      · rw [up_n (by decide), up_n (by decide), up_s]
        exact ⟨j1, j2, rfl, j4.cpy j2, (j5.cpy j2).congr j2 (fun t ht => cpA_at ht)⟩
      · rw [up_n (by decide), up_s, up_s]
        exact i4.congr (fun p hp => cpy_at hp) (fun p hp => cpy_at hp) (fun p hp => cpA_at hp) (fun p hp => cpA_at hp)
      · rw [up_n (by decide), up_n (by decide), up_n (by decide), up_n (by decide), up_n (by decide), up_n (by decide)]
        exact DR.none r3.2.2.1
      · rw [up_n (by decide), up_n (by decide), up_n (by decide)]
        exact ⟨j1, j2, j3, j4, j5⟩
      · rw [up_n (by decide), up_n (by decide), up_n (by decide), up_n (by decide), up_n (by decide), up_n (by decide)]
        exact i4
      · rw [up_n (by omega), up_n (by omega), up_n (by omega)]
      · rw [up_n (by decide), up_n (by decide), up_n (by decide)]; exact r7
theorem pr_count : PrI G mX9_count mX10_count 3 2 [.int x] := by
  intro σ ⟨A, B, C, I, H, T, D, z, a, tb, hX, hM, hR⟩
  obtain ⟨k1, k2, -, k4, k5⟩ := hR.1
  refine ConP.mono (x_count hX) (fun v σ1 ⟨hv, hσ⟩ => ?_)
  subst hv hσ
  refine stI hi.rfl' hM (ConP.mono (m_count k1 k2) (fun v' σ2 h' => ?_))
  exact fiI h' hX (by rw [r_tot k1 k2 k5, hR.2.2.1.1]) rfl rfl hR
end PR2
