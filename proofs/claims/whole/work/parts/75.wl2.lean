section WL2
variable {N m p : Nat} {ft : Nat → Int32}
/-- the numbers that a place may have -/
theorem wl_range {k : Nat} {b : Nat → Int32} (hm1 : 1 ≤ m) (hm : m ≤ 3) (h6 : N ≤ 6) (hk : k + 1 ≤ N) (hp : N - (k + 1) = p) (hb : bdd m p b) (hf : fe m (k + 1) (rsB b p)) : ∃ lo hi, lo ≤ hi ∧ hi ≤ 2 * m ∧ lA N m (rsB b p) p = nI lo - nI m ∧ (gA N m (rsB b p) p).toInt = (hi : Int) - m ∧ ∀ u, u ≤ 2 * m → (fe m k (rsB (upd b p (nI u - nI m)) (p + 1)) ↔ lo ≤ u ∧ u ≤ hi) := by
  have hr := rsB_bd (b := b) hm p (by omega) hb
  have h15 := mk15 (k := k) hm (by omega)
  have hM : m * (k + 1) = m * k + m := Nat.mul_succ m k
  obtain ⟨f1, f2⟩ := hf
  rw [hM] at f1 f2
  have la := lA_t (N := N) (p := p) (k := k) (r := rsB b p) hm (by omega) (by omega) (by omega) (by omega)
  have ga := gA_t (N := N) (p := p) (k := k) (r := rsB b p) hm (by omega) (by omega) (by omega) (by omega)
  generalize hR : (rsB b p).toInt = R at *
  generalize hMM : m * k = M at *
  refine ⟨((lA N m (rsB b p) p).toInt + m).toNat, ((gA N m (rsB b p) p).toInt + m).toNat, ?_, ?_, ?_, ?_, fun u hu => ?_⟩
  · rw [la, ga]; split <;> split <;> omega
  · rw [ga]; split <;> omega
  · have : (lA N m (rsB b p) p).toInt + m = (((lA N m (rsB b p) p).toInt + m).toNat : Int) := by
      rw [la]; split <;> omega
    have h3 : ((lA N m (rsB b p) p).toInt + m).toNat ≤ 2 * m := by rw [la]; split <;> omega
    rw [iEq, vm_t h3 hm]
    omega
  · rw [ga]; split <;> omega
  · have hb' : bdd m (p + 1) (upd b p (nI u - nI m)) := by
      intro i hi
      by_cases e : i = p
      · rw [e, upd_s]; exact ⟨u, hu, rfl⟩
      · rw [upd_n e]; exact hb i (by omega)
    have e1 := rsB_t (m := m) hm (q := p) (by omega) hb'
    rw [rsB_c (c := b) p (fun i hi => upd_n (by omega)), upd_s, vm_t hu hm, hR] at e1
    unfold fe
    rw [e1, hMM, la, ga]
    split <;> split <;> omega
theorem wl_main (hm1 : 1 ≤ m) (hm : m ≤ 3) (h6 : N ≤ 6) : ∀ k, k ≤ N → ∀ b, bdd m (N - k) b → fe m k (rsB b (N - k)) → (∃ tl, wL N m k b = fcB N m k (N - k) b :: tl) ∧ (∀ c, c ∈ wL N m k b → (∀ i, i < N - k → c i = b i) ∧ bdd m N c ∧ rsB c N = 0) ∧ lnk (Sst N m ft) (wL N m k b) (Emx N m (N - k)) := by
  intro k
  induction k with
  | zero =>
    intro _ b hb hf
    refine ⟨⟨[], rfl⟩, fun c hc => ?_, ?_⟩
    · have e : c = b := List.mem_singleton.mp hc
      subst e
      refine ⟨fun _ _ => rfl, hb, ?_⟩
      rw [iEq, i0]
      have h := hf
      unfold fe at h
      rw [Nat.mul_zero, Nat.sub_zero] at h
      omega
    · show Emx N m (N - 0) b
      intro j h1 h2
      omega
  | succ k ih =>
    intro hk b hb hf
    obtain ⟨p, hp⟩ : ∃ p, N - (k + 1) = p := ⟨_, rfl⟩
    rw [hp] at hb hf ⊢
    have hpk : N - k = p + 1 := by omega
    obtain ⟨lo, hi, h1, h2, h3, h4, h5⟩ := wl_range hm1 hm h6 hk hp hb hf
    rw [hpk] at ih
    have bu : ∀ u, u ≤ 2 * m → bdd m (p + 1) (upd b p (nI u - nI m)) := by
      intro u hu i hi
      by_cases e : i = p
      · rw [e, upd_s]; exact ⟨u, hu, rfl⟩
      · rw [upd_n e]; exact hb i (by omega)
    have ef : (fun u => if fe m k (rsB (upd b (N - (k + 1)) (nI u - nI m)) (N - (k + 1) + 1)) then wL N m k (upd b (N - (k + 1)) (nI u - nI m)) else []) = (fun u => if fe m k (rsB (upd b p (nI u - nI m)) (p + 1)) then wL N m k (upd b p (nI u - nI m)) else []) := by rw [hp]
    obtain ⟨S, hS⟩ : ∃ S : Nat → List (Nat → Int32), S = (fun u => if fe m k (rsB (upd b p (nI u - nI m)) (p + 1)) then wL N m k (upd b p (nI u - nI m)) else []) := ⟨_, rfl⟩
    have Su : ∀ u, u ≤ 2 * m → S u = if lo ≤ u ∧ u ≤ hi then wL N m k (upd b p (nI u - nI m)) else [] := by
      intro u hu
      rw [hS]
      dsimp only
      by_cases q : lo ≤ u ∧ u ≤ hi
      · rw [if_pos q, if_pos ((h5 u hu).mpr q)]
      · rw [if_neg q, if_neg (fun r => q ((h5 u hu).mp r))]
    have main : ∀ n u, u + n = 2 * m + 1 → (hi < u → blk S n u = []) ∧ (u ≤ hi → (∃ tl, blk S n u = fcB N m k (p + 1) (upd b p (nI (if u ≤ lo then lo else u) - nI m)) :: tl) ∧ (∀ c, c ∈ blk S n u → (∀ i, i < p → c i = b i) ∧ bdd m N c ∧ rsB c N = 0) ∧ lnk (Sst N m ft) (blk S n u) (Emx N m p)) := by
      intro n
      induction n with
      | zero => intro u hu; exact ⟨fun _ => rfl, fun q => by omega⟩
      | succ n ihn =>
        intro u hu
        obtain ⟨r1, r2⟩ := ihn (u + 1) (by omega)
        have hu2 : u ≤ 2 * m := by omega
        constructor
        · intro q
          show S u ++ blk S n (u + 1) = []
          rw [Su u hu2, if_neg (by omega), r1 (by omega)]
          rfl
        · intro q
          show (∃ tl, S u ++ blk S n (u + 1) = _) ∧ (∀ c, c ∈ S u ++ blk S n (u + 1) → _) ∧ lnk _ (S u ++ blk S n (u + 1)) _
          by_cases ql : u < lo
          · rw [Su u hu2, if_neg (by omega), List.nil_append]
            have := r2 (by omega)
            rw [if_pos (show u + 1 ≤ lo by omega)] at this
            rw [if_pos (show u ≤ lo by omega)]
            exact this
          · have el : (if u ≤ lo then lo else u) = u := by
              by_cases e : u ≤ lo
              · rw [if_pos e]; omega
              · rw [if_neg e]
            rw [el, Su u hu2, if_pos ⟨by omega, q⟩]
            obtain ⟨⟨t1, i1⟩, i2, i3⟩ := ih (by omega) _ (bu u hu2) ((h5 u hu2).mpr ⟨by omega, q⟩)
            have mem : ∀ c, c ∈ wL N m k (upd b p (nI u - nI m)) → (∀ i, i < p → c i = b i) ∧ bdd m N c ∧ rsB c N = 0 := by
              intro c hc
              obtain ⟨j1, j2⟩ := i2 c hc
              exact ⟨fun i hi => (j1 i (by omega)).trans (upd_n (by omega)), j2⟩
            have cp : ∀ c, c ∈ wL N m k (upd b p (nI u - nI m)) → c p = nI u - nI m := fun c hc => ((i2 c hc).1 p (by omega)).trans upd_s
            have crs : ∀ c, c ∈ wL N m k (upd b p (nI u - nI m)) → rsB c p = rsB b p := fun c hc => rsB_c p (mem c hc).1
            by_cases qh : u = hi
            · rw [r1 (by omega), List.append_nil]
              refine ⟨⟨t1, i1⟩, mem, lnk.mono _ i3 (fun c hc hE j hj1 hj2 => ?_)⟩
              by_cases e : j = p
              · rw [e, cp c hc, crs c hc, iLt, h4, vm_t hu2 hm]
                omega
              · exact hE j (by omega) hj2
            · obtain ⟨⟨t2, s1⟩, s2, s3⟩ := r2 (by omega)
              rw [if_neg (show ¬ u + 1 ≤ lo by omega)] at s1
              refine ⟨?_, fun c hc => ?_, ?_⟩
              · rw [i1, List.cons_append]; exact ⟨_, rfl⟩
              · rcases List.mem_append.mp hc with h | h
                · exact mem c h
                · exact s2 c h
              · rw [s1] at s3 ⊢
                refine lnk.app s3 _ (lnk.mono _ i3 (fun c hc hE w hw => ?_))
                have kp : p + 1 < N := by
                  -- one number alone is left for the last place
                  by_cases e : k = 0
                  · exfalso
                    subst e
                    have a1 := (h5 u hu2).mpr ⟨by omega, q⟩
                    have a2 := (h5 hi h2).mpr ⟨by omega, Nat.le_refl _⟩
                    unfold fe at a1 a2
                    rw [rsB_t hm (by omega) (bu u hu2), rsB_c (c := b) p (fun i hi => upd_n (by omega)), upd_s, vm_t hu2 hm] at a1
                    rw [rsB_t hm (by omega) (bu hi h2), rsB_c (c := b) p (fun i hi => upd_n (by omega)), upd_s, vm_t h2 hm] at a2
                    rw [Nat.mul_zero] at a1 a2
                    omega
                  · omega
                have gd := goD_down (m := m) hw (show N - 1 < N by omega) hE (N - 1 - (p + 1)) (by omega) (by omega)
                obtain ⟨w', g1, g2⟩ := goD_go (m := m) hw (show p < N by omega) (by rw [cp c hc, crs c hc, iLt, h4, vm_t hu2 hm]; omega)
                refine ⟨w', gd.trans g1, g2.congr ?_⟩
                rw [show N - (p + 1) = k by omega]
                intro i hi'
                refine fcB_c k (p + 1) _ _ (fun j hj => ?_) i (by omega)
                by_cases e : j = p
                · rw [e, upd_s, upd_s, cp c hc]
                  exact vm_s u m
                · rw [upd_n e, upd_n e]
                  exact (mem c hc).1 j (by omega)
    obtain ⟨m1, m2, m3⟩ := (main (2 * m + 1) 0 (by omega)).2 (by omega)
    have eL : wL N m (k + 1) b = blk S (2 * m + 1) 0 := by
      show blk _ _ _ = _
      rw [ef, ← hS]
    rw [eL]
    refine ⟨?_, m2, m3⟩
    rw [if_pos (Nat.zero_le lo)] at m1
    show ∃ tl, blk S (2 * m + 1) 0 = fcB N m k (p + 1) (upd b p (lA N m (rsB b p) p)) :: tl
    rw [h3]
    exact m1
/-- a fold over blocks -/
theorem blk_fold {α β : Type} {S : Nat → List α} {g : β → α → β} : ∀ n u (s : β), (blk S n u).foldl g s = upn n u (fun v s => (S v).foldl g s) s := by
  intro n
  induction n with
  | zero => intro u s; rfl
  | succ n ih =>
    intro u s
    show (S u ++ blk S n (u + 1)).foldl g s = _
    rw [List.foldl_append, ih]
    rfl
theorem upn_id {β : Type} {f : Nat → β → β} : ∀ n k (s : β), (∀ j s, k ≤ j → j < k + n → f j s = s) → upn n k f s = s := by
  intro n
  induction n with
  | zero => intro k s _; rfl
  | succ n ih =>
    intro k s h
    show upn n (k + 1) f (f k s) = s
    rw [h k s (Nat.le_refl _) (by omega)]
    exact ih (k + 1) s (fun j s a b => h j s (by omega) (by omega))
theorem rsB_sum {b : Nat → Int32} : ∀ n, rsB b n = nI 1 - wSum n b := by
  intro n
  induction n with
  | zero => exact (Int32.sub_zero _).symm
  | succ n ih =>
    show rsB b n - b n = nI 1 - wSum (n + 1) b
    rw [ih, show wSum (n + 1) b = wSum n b + b n from by
      unfold wSum
      rw [upn_last, Nat.zero_add]]
    grind
theorem isW_rs {b : Nat → Int32} (hm : m ≤ 3) (hb : bdd m N b) : isW N b ↔ rsB b N = 0 := by
  rw [rsB_sum]
  constructor
  · intro h
    rw [h.2]
    rfl
  · intro h
    refine ⟨fun i hi => ?_, ?_⟩
    · obtain ⟨u, hu, e⟩ := hb i hi
      rw [e, vm_t hu hm]
      omega
    · have : wSum N b = nI 1 - (nI 1 - wSum N b) := by grind
      rw [this, h]
      rfl
/-- the model's rows, one behind the other, are the walls -/
theorem fld_wL {β : Type} {f : (Nat → Int32) → β → β} {g : β → (Nat → Int32) → β} (hm1 : 1 ≤ m) (hm : m ≤ 3) (h6 : N ≤ 6) (hf : ∀ b s, f b s = if isW N b then g s b else s) : ∀ k, k ≤ N → ∀ b s, bdd m (N - k) b → fldA f N m k b s = if fe m k (rsB b (N - k)) then (wL N m k b).foldl g s else s := by
  intro k
  induction k with
  | zero =>
    intro _ b s hb
    show f b s = _
    rw [hf]
    have e : isW N b ↔ fe m 0 (rsB b (N - 0)) := by
      rw [isW_rs (N := N) hm hb, iEq, i0]
      unfold fe
      rw [Nat.mul_zero, Nat.sub_zero]
      omega
    by_cases q : isW N b
    · rw [if_pos q, if_pos (e.mp q)]
      rfl
    · rw [if_neg q, if_neg (fun r => q (e.mpr r))]
  | succ k ih =>
    intro hk b s hb
    obtain ⟨p, hp⟩ : ∃ p, N - (k + 1) = p := ⟨_, rfl⟩
    rw [hp] at hb ⊢
    have hpk : N - k = p + 1 := by omega
    rw [hpk] at ih
    have bu : ∀ u, u ≤ 2 * m → bdd m (p + 1) (upd b p (nI u - nI m)) := by
      intro u hu i hi
      by_cases e : i = p
      · rw [e, upd_s]; exact ⟨u, hu, rfl⟩
      · rw [upd_n e]; exact hb i (by omega)
    show upn (2 * m + 1) 0 (fun v a => fldA f N m k (upd b (N - (k + 1)) (nI v - nI m)) a) s = _
    have e1 : upn (2 * m + 1) 0 (fun v a => fldA f N m k (upd b (N - (k + 1)) (nI v - nI m)) a) s = upn (2 * m + 1) 0 (fun v s => (if fe m k (rsB (upd b (N - (k + 1)) (nI v - nI m)) (N - (k + 1) + 1)) then wL N m k (upd b (N - (k + 1)) (nI v - nI m)) else []).foldl g s) s := by
      refine upn_congr _ _ _ (fun v s _ hv => ?_)
      rw [hp, ih (by omega) _ s (bu v (by omega))]
      by_cases q : fe m k (rsB (upd b p (nI v - nI m)) (p + 1))
      · rw [if_pos q, if_pos q]
      · rw [if_neg q, if_neg q]
        rfl
    rw [e1]
    by_cases q : fe m (k + 1) (rsB b p)
    · rw [if_pos q]
      exact (blk_fold _ _ _).symm
    · rw [if_neg q]
      refine upn_id _ _ _ (fun u s _ hu => ?_)
      rw [hp, if_neg]
      · rfl
      · intro r
        unfold fe at q r
        rw [rsB_t hm (by omega) (bu u (by omega)), rsB_c (c := b) p (fun i hi => upd_n (by omega)), upd_s, vm_t (by omega) hm] at r
        rw [show m * (k + 1) = m * k + m from Nat.mul_succ m k] at q
        exact q (by omega)
theorem blk_len {α : Type} {S : Nat → List α} {B : Nat} : ∀ n u, (∀ v, u ≤ v → v < u + n → (S v).length ≤ B) → (blk S n u).length ≤ n * B := by
  intro n
  induction n with
  | zero => intro u _; exact Nat.zero_le _
  | succ n ih =>
    intro u h
    show (S u ++ blk S n (u + 1)).length ≤ _
    rw [List.length_append, Nat.succ_mul]
    have h1 := ih (u + 1) (fun v a b => h v (by omega) (by omega))
    have h2 := h u (Nat.le_refl _) (by omega)
    omega
theorem blk_one {α : Type} {S : Nat → List α} {t : Int} : ∀ n u, (∀ v, u ≤ v → v < u + n → (S v).length ≤ 1 ∧ (¬ (v : Int) = t → S v = [])) → (blk S n u).length ≤ 1 ∧ (t < (u : Int) → blk S n u = []) := by
  intro n
  induction n with
  | zero => intro u _; exact ⟨Nat.zero_le _, fun _ => rfl⟩
  | succ n ih =>
    intro u h
    have h1 := ih (u + 1) (fun v a b => h v (by omega) (by omega))
    have h2 := h u (Nat.le_refl _) (by omega)
    show (S u ++ blk S n (u + 1)).length ≤ 1 ∧ (_ → S u ++ blk S n (u + 1) = [])
    by_cases e : (u : Int) = t
    · rw [h1.2 (by omega), List.append_nil]
      exact ⟨h2.1, fun q => by omega⟩
    · rw [h2.2 e, List.nil_append]
      exact ⟨h1.1, fun q => h1.2 (by omega)⟩
theorem wL_len (hm : m ≤ 3) (h6 : N ≤ 6) : ∀ k, k + 1 ≤ N → ∀ b, bdd m (N - (k + 1)) b → (wL N m (k + 1) b).length ≤ 7 ^ k := by
  intro k
  induction k with
  | zero =>
    intro hN b hb
    obtain ⟨p, hp⟩ : ∃ p, N - (0 + 1) = p := ⟨_, rfl⟩
    rw [hp] at hb
    have bu : ∀ u, u ≤ 2 * m → bdd m (p + 1) (upd b p (nI u - nI m)) := by
      intro u hu i hi
      by_cases e : i = p
      · rw [e, upd_s]; exact ⟨u, hu, rfl⟩
      · rw [upd_n e]; exact hb i (by omega)
    refine (blk_one (t := (rsB b p).toInt + m) (2 * m + 1) 0 (fun v _ hv => ?_)).1
    dsimp only
    rw [hp]
    constructor
    · split
      · exact Nat.le_refl 1
      · exact Nat.zero_le 1
    · intro q
      rw [if_neg]
      intro r
      unfold fe at r
      rw [rsB_t hm (by omega) (bu v (by omega)), rsB_c (c := b) p (fun i hi => upd_n (by omega)), upd_s, vm_t (by omega) hm, Nat.mul_zero] at r
      omega
  | succ k ih =>
    intro hN b hb
    have key : (wL N m (k + 1 + 1) b).length ≤ (2 * m + 1) * 7 ^ k := by
      refine blk_len (2 * m + 1) 0 (fun v _ hv => ?_)
      split
      · refine ih (by omega) _ ?_
        intro i hi
        by_cases e : i = N - (k + 1 + 1)
        · rw [e, upd_s]; exact ⟨v, by omega, rfl⟩
        · rw [upd_n e]; exact hb i (by omega)
      · exact Nat.zero_le _
    have : (2 * m + 1) * 7 ^ k ≤ 7 * 7 ^ k := Nat.mul_le_mul_right _ (by omega)
    rw [Nat.pow_succ]
    omega
end WL2
