def mCh1 (f w : Nat → Int32) (i j : Nat) (s : Int32) : Int32 := s + (if f (6 * i + j) = w (6 * i + j) then nI 0 else nI 1)
def mCh2 (N : Nat) (f w : Nat → Int32) (i : Nat) (s : Int32) : Int32 := upn (N - (i + 1)) (i + 1) (mCh1 f w i) s
def mCh (N : Nat) (f w : Nat → Int32) : Int32 := upn N 0 (mCh2 N f w) (nI 0)
abbrev DD : Type := (Nat → Int32) × (Nat → Int32)
def mSh1 (k : Nat) (i : Nat) (df : Nat → Int32) : Nat → Int32 := upd df (36 * (k - 1) + i) (df (36 * k + i))
def mSh (k : Nat) (x : DD) : DD := (upd x.1 (k - 1) (x.1 k), upn 36 0 (mSh1 k) x.2)
def mKp (d : Nat) (v : Int32) (w : Nat → Int32) (x : DD) : DD := (upd x.1 d v, upn 36 0 (fun i df => upd df (36 * d + i) (w i)) x.2)
/-- a deed kept: how many then, and the rows -/
def mDn (D : Nat) (v : Int32) (w : Nat → Int32) (x : DD) : Nat × DD := if D = 8 then (8, mKp 7 v w (upn 7 1 mSh x)) else (D + 1, mKp D v w x)
def mDo (N D : Nat) (z : Nat → Int32) (a : Nat → Nat → Int32) : Nat × (Nat → Nat → Int32) := if mCh N (a 85) (a 97) = 0 ∧ nI N = z 18 then (D, a) else ((mDn D (z 18) (a 97) (a 88, a 89)).1, va_up (va_up a 88 (mDn D (z 18) (a 97) (a 88, a 89)).2.1) 89 (mDn D (z 18) (a 97) (a 88, a 89)).2.2)
/-- ahead() -/
def mAh (a : Nat → Nat → Int32) : Nat → Nat → Int32 := va_up a 97 (cpA 36 (a 85) (a 97))
section MODEL2
variable {G : GT} {σ : Sto} {N D T : Nat} {z : Nat → Int32} {a : Nat → Nat → Int32} {tb : Nat → Int64}
theorem c_done (hN : 2 ≤ N) (hN6 : N ≤ 6) (hD : D ≤ 8) : ConP G mX10_done 1 [.ref (adr G 84)] (putM G σ N D T z a tb) (rI (mCh N (a 85) (a 97)) (putM G σ N (mDo N D z a).1 T z (mDo N D z a).2 tb)) := by
  generalize hR : mDo N D z a = R
  refine ConP.of rfl (Nat.le_of_ble_eq_true rfl) ?_
  refine k_iconst (pc' := 1) (v := nI 0) dX10_done_0 rfl ?_
  refine k_istore_n (pc' := 2) dX10_done_1 (Nat.le_of_ble_eq_true rfl) rfl ?_
  refine k_iconst (pc' := 3) (v := nI 0) dX10_done_2 rfl ?_
  refine k_istore_n (pc' := 4) dX10_done_3 (Nat.le_of_ble_eq_true rfl) rfl ?_
  refine loopU (fun i s => ∀ y, OkP G mX10_done 1 (rI (mCh N (a 85) (a 97)) (putM G σ N R.1 T z R.2 tb)) 4 [some (.ref (adr G 84)), some (.int s), some (.int (nI i)), y] [] (putM G σ N D T z a tb)) (mCh2 N (a 85) (a 97)) N 0 N (nI 0) (by omega) ?_ ?_ none
  · intro i s _ hi ih y
    refine k_iload_n (pc' := 5) dX10_done_4 rfl ?_
    refine k_aload_n (pc' := 6) dX10_done_5 rfl ?_
    refine p_get (pc' := 9) clX10 (Nat.le_of_ble_eq_true rfl) fl_RX10_9 dX10_done_6 (by first | assumption | decide | omega) (by first | rfl | assumption) rfl ?_
    refine k_icmp_ge (tgt := 69) (pc' := 12) dX10_done_9 rfl (fun zz_ => absurd zz_ (nI_ge (by omega) (by omega))) (fun _ => ?_)
    refine k_iload_n (pc' := 13) dX10_done_12 rfl ?_
    refine k_iconst (pc' := 14) (v := nI 1) dX10_done_13 rfl ?_
    refine k_iadd (pc' := 15) dX10_done_14 (by first | exact nI_add _ _ | rfl) ?_
    refine k_istore_n (pc' := 16) dX10_done_15 (Nat.le_of_ble_eq_true rfl) rfl ?_
    refine loopU (fun j s => OkP G mX10_done 1 (rI (mCh N (a 85) (a 97)) (putM G σ N R.1 T z R.2 tb)) 16 [some (.ref (adr G 84)), some (.int s), some (.int (nI i)), some (.int (nI j))] [] (putM G σ N D T z a tb)) (mCh1 (a 85) (a 97) i) N (i + 1) (N - (i + 1)) s (by omega) ?_ ?_
    · intro j s hij hj ih2
      by_cases he : a 85 (6 * i + j) = a 97 (6 * i + j)
      · unfold mCh1 at ih2
        rw [if_pos he] at ih2
        refine k_iload_n (pc' := 17) dX10_done_16 rfl ?_
        refine k_aload_n (pc' := 18) dX10_done_17 rfl ?_
        refine p_get (pc' := 21) clX10 (Nat.le_of_ble_eq_true rfl) fl_RX10_9 dX10_done_18 (by first | assumption | decide | omega) (by first | rfl | assumption) rfl ?_
        refine k_icmp_ge (tgt := 63) (pc' := 24) dX10_done_21 rfl (fun zz_ => absurd zz_ (nI_ge (by omega) (by omega))) (fun _ => ?_)
        refine k_iload_n (pc' := 25) dX10_done_24 rfl ?_
        refine k_aload_n (pc' := 26) dX10_done_25 rfl ?_
        refine p_get (pc' := 29) clX10 (Nat.le_of_ble_eq_true rfl) fl_RX10_15 dX10_done_26 (by first | assumption | decide | omega) (by first | rfl | assumption) rfl ?_
        refine k_bipush (pc' := 31) (v := nI 6) dX10_done_29 rfl ?_
        refine k_iload_n (pc' := 32) dX10_done_31 rfl ?_
        refine k_imul (pc' := 33) dX10_done_32 (by first | exact pk_mul _ _ | rfl) ?_
        refine k_iload_n (pc' := 34) dX10_done_33 rfl ?_
        refine k_iadd (pc' := 35) dX10_done_34 (by first | exact nI_add _ _ | rfl) ?_
        refine p_ialdN (pc' := 36) dX10_done_35 (by first | assumption | decide | omega) (by first | rfl | assumption) (by first | decide | omega) (by first | omega | (simp only [mL85, mL86, mL87, mL88, mL89, mL90, mL91, mL92, mL93, mL94, mL95, mL96, mL97, mL98, mL100, mL101, mL102, mL103]; omega)) ?_
        refine k_aload_n (pc' := 37) dX10_done_36 rfl ?_
        refine p_get (pc' := 40) clX10 (Nat.le_of_ble_eq_true rfl) fl_RX10_52 dX10_done_37 (by first | assumption | decide | omega) (by first | rfl | assumption) rfl ?_
        refine k_bipush (pc' := 42) (v := nI 6) dX10_done_40 rfl ?_
        refine k_iload_n (pc' := 43) dX10_done_42 rfl ?_
        refine k_imul (pc' := 44) dX10_done_43 (by first | exact pk_mul _ _ | rfl) ?_
        refine k_iload_n (pc' := 45) dX10_done_44 rfl ?_
        refine k_iadd (pc' := 46) dX10_done_45 (by first | exact nI_add _ _ | rfl) ?_
        refine p_ialdN (pc' := 47) dX10_done_46 (by first | assumption | decide | omega) (by first | rfl | assumption) (by first | decide | omega) (by first | omega | (simp only [mL85, mL86, mL87, mL88, mL89, mL90, mL91, mL92, mL93, mL94, mL95, mL96, mL97, mL98, mL100, mL101, mL102, mL103]; omega)) ?_
        refine k_icmp_eq (tgt := 54) (pc' := 50) dX10_done_47 rfl (fun _ => ?_) (fun zz_ => absurd he zz_)
        refine k_iconst (pc' := 55) (v := nI 0) dX10_done_54 rfl ?_
        refine k_iadd (pc' := 56) (v := s + nI 0) dX10_done_55 rfl ?_
        refine k_istore_n (pc' := 57) dX10_done_56 (Nat.le_of_ble_eq_true rfl) rfl ?_
        refine k_iinc (pc' := 60) (v := nI (j + 1)) dX10_done_57 rfl (nI_inc _) (Nat.le_of_ble_eq_true rfl) rfl ?_
        refine k_goto (tgt := 16) dX10_done_60 rfl ?_
        exact ih2
      · unfold mCh1 at ih2
        rw [if_neg he] at ih2
        refine k_iload_n (pc' := 17) dX10_done_16 rfl ?_
        refine k_aload_n (pc' := 18) dX10_done_17 rfl ?_
        refine p_get (pc' := 21) clX10 (Nat.le_of_ble_eq_true rfl) fl_RX10_9 dX10_done_18 (by first | assumption | decide | omega) (by first | rfl | assumption) rfl ?_
        refine k_icmp_ge (tgt := 63) (pc' := 24) dX10_done_21 rfl (fun zz_ => absurd zz_ (nI_ge (by omega) (by omega))) (fun _ => ?_)
        refine k_iload_n (pc' := 25) dX10_done_24 rfl ?_
        refine k_aload_n (pc' := 26) dX10_done_25 rfl ?_
        refine p_get (pc' := 29) clX10 (Nat.le_of_ble_eq_true rfl) fl_RX10_15 dX10_done_26 (by first | assumption | decide | omega) (by first | rfl | assumption) rfl ?_
        refine k_bipush (pc' := 31) (v := nI 6) dX10_done_29 rfl ?_
        refine k_iload_n (pc' := 32) dX10_done_31 rfl ?_
        refine k_imul (pc' := 33) dX10_done_32 (by first | exact pk_mul _ _ | rfl) ?_
        refine k_iload_n (pc' := 34) dX10_done_33 rfl ?_
        refine k_iadd (pc' := 35) dX10_done_34 (by first | exact nI_add _ _ | rfl) ?_
        refine p_ialdN (pc' := 36) dX10_done_35 (by first | assumption | decide | omega) (by first | rfl | assumption) (by first | decide | omega) (by first | omega | (simp only [mL85, mL86, mL87, mL88, mL89, mL90, mL91, mL92, mL93, mL94, mL95, mL96, mL97, mL98, mL100, mL101, mL102, mL103]; omega)) ?_
        refine k_aload_n (pc' := 37) dX10_done_36 rfl ?_
        refine p_get (pc' := 40) clX10 (Nat.le_of_ble_eq_true rfl) fl_RX10_52 dX10_done_37 (by first | assumption | decide | omega) (by first | rfl | assumption) rfl ?_
        refine k_bipush (pc' := 42) (v := nI 6) dX10_done_40 rfl ?_
        refine k_iload_n (pc' := 43) dX10_done_42 rfl ?_
        refine k_imul (pc' := 44) dX10_done_43 (by first | exact pk_mul _ _ | rfl) ?_
        refine k_iload_n (pc' := 45) dX10_done_44 rfl ?_
        refine k_iadd (pc' := 46) dX10_done_45 (by first | exact nI_add _ _ | rfl) ?_
        refine p_ialdN (pc' := 47) dX10_done_46 (by first | assumption | decide | omega) (by first | rfl | assumption) (by first | decide | omega) (by first | omega | (simp only [mL85, mL86, mL87, mL88, mL89, mL90, mL91, mL92, mL93, mL94, mL95, mL96, mL97, mL98, mL100, mL101, mL102, mL103]; omega)) ?_
        refine k_icmp_eq (tgt := 54) (pc' := 50) dX10_done_47 rfl (fun zz_ => absurd zz_ he) (fun _ => ?_)
        refine k_iconst (pc' := 51) (v := nI 1) dX10_done_50 rfl ?_
        refine k_goto (tgt := 55) dX10_done_51 rfl ?_
        refine k_iadd (pc' := 56) (v := s + nI 1) dX10_done_55 rfl ?_
        refine k_istore_n (pc' := 57) dX10_done_56 (Nat.le_of_ble_eq_true rfl) rfl ?_
        refine k_iinc (pc' := 60) (v := nI (j + 1)) dX10_done_57 rfl (nI_inc _) (Nat.le_of_ble_eq_true rfl) rfl ?_
        refine k_goto (tgt := 16) dX10_done_60 rfl ?_
        exact ih2
    · refine k_iload_n (pc' := 17) dX10_done_16 rfl ?_
      refine k_aload_n (pc' := 18) dX10_done_17 rfl ?_
      refine p_get (pc' := 21) clX10 (Nat.le_of_ble_eq_true rfl) fl_RX10_9 dX10_done_18 (by first | assumption | decide | omega) (by first | rfl | assumption) rfl ?_
      refine k_icmp_ge (tgt := 63) (pc' := 24) dX10_done_21 rfl (fun _ => ?_) (fun zz_ => absurd (nI_le (by omega) (by omega)) zz_)
      refine k_iinc (pc' := 66) (v := nI (i + 1)) dX10_done_63 rfl (nI_inc _) (Nat.le_of_ble_eq_true rfl) rfl ?_
      refine k_goto (tgt := 4) dX10_done_66 rfl ?_
      exact ih _
  · intro y
    refine k_iload_n (pc' := 5) dX10_done_4 rfl ?_
    refine k_aload_n (pc' := 6) dX10_done_5 rfl ?_
    refine p_get (pc' := 9) clX10 (Nat.le_of_ble_eq_true rfl) fl_RX10_9 dX10_done_6 (by first | assumption | decide | omega) (by first | rfl | assumption) rfl ?_
    refine k_icmp_ge (tgt := 69) (pc' := 12) dX10_done_9 rfl (fun _ => ?_) (fun zz_ => absurd (nI_le (by omega) (by omega)) zz_)
    show OkP G mX10_done 1 (rI (mCh N (a 85) (a 97)) (putM G σ N R.1 T z R.2 tb)) 69 [some (.ref (adr G 84)), some (.int (mCh N (a 85) (a 97))), some (.int (nI N)), y] [] (putM G σ N D T z a tb)
    have keep : ∀ (d : Nat) (x : DD) (y1 y2 : Option Value), d < 8 → R = (d + 1, va_up (va_up a 88 (mKp d (z 18) (a 97) x).1) 89 (mKp d (z 18) (a 97) x).2) → OkP G mX10_done 1 (rI (mCh N (a 85) (a 97)) (putM G σ N R.1 T z R.2 tb)) 171 [some (.ref (adr G 84)), some (.int (mCh N (a 85) (a 97))), y1, y2] [] (putM G σ N d T z (va_up (va_up a 88 x.1) 89 x.2) tb) := by
      intro d x y1 y2 hd hr
      subst hr
      refine k_aload_n (pc' := 172) dX10_done_171 rfl ?_
      refine p_get (pc' := 175) clX10 (Nat.le_of_ble_eq_true rfl) fl_RX10_25 dX10_done_172 (by first | assumption | decide | omega) (by first | rfl | assumption) rfl ?_
      refine k_aload_n (pc' := 176) dX10_done_175 rfl ?_
      refine p_get (pc' := 179) clX10 (Nat.le_of_ble_eq_true rfl) fl_RX10_100 dX10_done_176 (by first | assumption | decide | omega) (by first | rfl | assumption) rfl ?_
      refine k_aload_n (pc' := 180) dX10_done_179 rfl ?_
      refine p_get (pc' := 183) clX10 (Nat.le_of_ble_eq_true rfl) fl_RX10_93 dX10_done_180 (by first | assumption | decide | omega) (by first | rfl | assumption) rfl ?_
      refine p_iastN (pc' := 184) (σ1 := putM G σ N d T z (va_up (va_up a 88 (upd x.1 d (z 18))) 89 x.2) tb) dX10_done_183 (by first | assumption | decide | omega) (by first | rfl | assumption) (by first | decide | omega) (by first | omega | (simp only [mL85, mL86, mL87, mL88, mL89, mL90, mL91, mL92, mL93, mL94, mL95, mL96, mL97, mL98, mL100, mL101, mL102, mL103]; omega)) (by exact (by rw [pMa (by decide), up_c (by decide), up_up]; rfl)) ?_
      refine k_iconst (pc' := 185) (v := nI 0) dX10_done_184 rfl ?_
      refine k_istore_n (pc' := 186) dX10_done_185 (Nat.le_of_ble_eq_true rfl) rfl ?_
      refine loopU (fun i df => OkP G mX10_done 1 (rI (mCh N (a 85) (a 97)) (putM G σ N (d + 1) T z (va_up (va_up a 88 (mKp d (z 18) (a 97) x).1) 89 (mKp d (z 18) (a 97) x).2) tb)) 186 [some (.ref (adr G 84)), some (.int (mCh N (a 85) (a 97))), some (.int (nI i)), y2] [] (putM G σ N d T z (va_up (va_up a 88 (upd x.1 d (z 18))) 89 df) tb)) (fun i df => upd df (36 * d + i) (a 97 i)) 36 0 36 x.2 (by omega) ?_ ?_
      · intro i df _ hi ih
        refine k_iload_n (pc' := 187) dX10_done_186 rfl ?_
        refine k_bipush (pc' := 189) (v := nI 36) dX10_done_187 rfl ?_
        refine k_icmp_ge (tgt := 218) (pc' := 192) dX10_done_189 rfl (fun zz_ => absurd zz_ (nI_ge (by omega) (by omega))) (fun _ => ?_)
        refine k_aload_n (pc' := 193) dX10_done_192 rfl ?_
        refine p_get (pc' := 196) clX10 (Nat.le_of_ble_eq_true rfl) fl_RX10_28 dX10_done_193 (by first | assumption | decide | omega) (by first | rfl | assumption) rfl ?_
        refine k_bipush (pc' := 198) (v := nI 36) dX10_done_196 rfl ?_
        refine k_aload_n (pc' := 199) dX10_done_198 rfl ?_
        refine p_get (pc' := 202) clX10 (Nat.le_of_ble_eq_true rfl) fl_RX10_100 dX10_done_199 (by first | assumption | decide | omega) (by first | rfl | assumption) rfl ?_
        refine k_imul (pc' := 203) dX10_done_202 (by first | exact pk_mul _ _ | rfl) ?_
        refine k_iload_n (pc' := 204) dX10_done_203 rfl ?_
        refine k_iadd (pc' := 205) dX10_done_204 (by first | exact nI_add _ _ | rfl) ?_
        refine k_aload_n (pc' := 206) dX10_done_205 rfl ?_
        refine p_get (pc' := 209) clX10 (Nat.le_of_ble_eq_true rfl) fl_RX10_52 dX10_done_206 (by first | assumption | decide | omega) (by first | rfl | assumption) rfl ?_
        refine k_iload_n (pc' := 210) dX10_done_209 rfl ?_
        refine p_ialdN (pc' := 211) dX10_done_210 (by first | assumption | decide | omega) (by first | rfl | assumption) (by first | decide | omega) (by first | omega | (simp only [mL85, mL86, mL87, mL88, mL89, mL90, mL91, mL92, mL93, mL94, mL95, mL96, mL97, mL98, mL100, mL101, mL102, mL103]; omega)) ?_
        refine p_iastN (pc' := 212) (σ1 := putM G σ N d T z (va_up (va_up a 88 (upd x.1 d (z 18))) 89 (upd df (36 * d + i) (a 97 i))) tb) dX10_done_211 (by first | assumption | decide | omega) (by first | rfl | assumption) (by first | decide | omega) (by first | omega | (simp only [mL85, mL86, mL87, mL88, mL89, mL90, mL91, mL92, mL93, mL94, mL95, mL96, mL97, mL98, mL100, mL101, mL102, mL103]; omega)) (by exact (by rw [pMa (by decide), up_up]; rfl)) ?_
        refine k_iinc (pc' := 215) (v := nI (i + 1)) dX10_done_212 rfl (nI_inc _) (Nat.le_of_ble_eq_true rfl) rfl ?_
        refine k_goto (tgt := 186) dX10_done_215 rfl ?_
        exact ih
      · refine k_iload_n (pc' := 187) dX10_done_186 rfl ?_
        refine k_bipush (pc' := 189) (v := nI 36) dX10_done_187 rfl ?_
        refine k_icmp_ge (tgt := 218) (pc' := 192) dX10_done_189 rfl (fun _ => ?_) (fun zz_ => absurd (nI_le (by omega) (by omega)) zz_)
        refine k_aload_n (pc' := 219) dX10_done_218 rfl ?_
        refine k_dup (pc' := 220) dX10_done_219 rfl ?_
        refine p_get (pc' := 223) clX10 (Nat.le_of_ble_eq_true rfl) fl_RX10_100 dX10_done_220 (by first | assumption | decide | omega) (by first | rfl | assumption) rfl ?_
        refine k_iconst (pc' := 224) (v := nI 1) dX10_done_223 rfl ?_
        refine k_iadd (pc' := 225) dX10_done_224 (by first | exact nI_add _ _ | rfl) ?_
        refine p_putI (pc' := 228) clX10 (Nat.le_of_ble_eq_true rfl) fl_RX10_100 dX10_done_225 rfl (Or.inl rfl) (by first | assumption | decide | omega) (by first | rfl | assumption) (Nat.le_of_ble_eq_true rfl) (by exact pMz4) ?_
        refine k_iload_n (pc' := 229) dX10_done_228 rfl ?_
        refine p_ireturn dX10_done_229 rfl ?_
        exact ⟨rfl, rfl⟩
    have deed : ¬ (mCh N (a 85) (a 97) = 0 ∧ nI N = z 18) → ∀ y1, OkP G mX10_done 1 (rI (mCh N (a 85) (a 97)) (putM G σ N R.1 T z R.2 tb)) 86 [some (.ref (adr G 84)), some (.int (mCh N (a 85) (a 97))), y1, y] [] (putM G σ N D T z a tb) := by
      intro hc y1
      unfold mDo at hR
      rw [if_neg hc] at hR
      by_cases h8 : D = 8
      · have e1 : mDn D (z 18) (a 97) (a 88, a 89) = (8, mKp 7 (z 18) (a 97) (upn 7 1 mSh (a 88, a 89))) := if_pos h8
        rw [e1] at hR
        subst h8
        refine k_aload_n (pc' := 87) dX10_done_86 rfl ?_
        refine p_get (pc' := 90) clX10 (Nat.le_of_ble_eq_true rfl) fl_RX10_100 dX10_done_87 (by first | assumption | decide | omega) (by first | rfl | assumption) rfl ?_
        refine k_bipush (pc' := 92) (v := nI 8) dX10_done_90 rfl ?_
        refine k_icmp_ne (tgt := 171) (pc' := 95) dX10_done_92 rfl (fun zz_ => absurd rfl zz_) (fun _ => ?_)
        refine k_iconst (pc' := 96) (v := nI 1) dX10_done_95 rfl ?_
        refine k_istore_n (pc' := 97) dX10_done_96 (Nat.le_of_ble_eq_true rfl) rfl ?_
        have e2 : va_up (va_up a 88 (a 88)) 89 (a 89) = a := by rw [up_id rfl, up_id rfl]
        have key := loopU (fun k (x : DD) => ∀ y2, OkP G mX10_done 1 (rI (mCh N (a 85) (a 97)) (putM G σ N R.1 T z R.2 tb)) 97 [some (.ref (adr G 84)), some (.int (mCh N (a 85) (a 97))), some (.int (nI k)), y2] [] (putM G σ N 8 T z (va_up (va_up a 88 x.1) 89 x.2) tb)) mSh 8 1 7 (a 88, a 89) rfl ?_ ?_ y
        · dsimp only at key
          rw [e2] at key
          exact key
        · intro k x hk1 hk ih y2
          refine k_iload_n (pc' := 98) dX10_done_97 rfl ?_
          refine k_bipush (pc' := 100) (v := nI 8) dX10_done_98 rfl ?_
          refine k_icmp_ge (tgt := 161) (pc' := 103) dX10_done_100 rfl (fun zz_ => absurd zz_ (nI_ge (by omega) (by omega))) (fun _ => ?_)
          refine k_aload_n (pc' := 104) dX10_done_103 rfl ?_
          refine p_get (pc' := 107) clX10 (Nat.le_of_ble_eq_true rfl) fl_RX10_25 dX10_done_104 (by first | assumption | decide | omega) (by first | rfl | assumption) rfl ?_
          refine k_iload_n (pc' := 108) dX10_done_107 rfl ?_
          refine k_iconst (pc' := 109) (v := nI 1) dX10_done_108 rfl ?_
          refine k_isub (pc' := 110) dX10_done_109 (by first | exact pk_sub (by omega) | rfl) ?_
          refine k_aload_n (pc' := 111) dX10_done_110 rfl ?_
          refine p_get (pc' := 114) clX10 (Nat.le_of_ble_eq_true rfl) fl_RX10_25 dX10_done_111 (by first | assumption | decide | omega) (by first | rfl | assumption) rfl ?_
          refine k_iload_n (pc' := 115) dX10_done_114 rfl ?_
          refine p_ialdN (pc' := 116) dX10_done_115 (by first | assumption | decide | omega) (by first | rfl | assumption) (by first | decide | omega) (by first | omega | (simp only [mL85, mL86, mL87, mL88, mL89, mL90, mL91, mL92, mL93, mL94, mL95, mL96, mL97, mL98, mL100, mL101, mL102, mL103]; omega)) ?_
          refine p_iastN (pc' := 117) (σ1 := putM G σ N 8 T z (va_up (va_up a 88 (upd x.1 (k - 1) (x.1 k))) 89 x.2) tb) dX10_done_116 (by first | assumption | decide | omega) (by first | rfl | assumption) (by first | decide | omega) (by first | omega | (simp only [mL85, mL86, mL87, mL88, mL89, mL90, mL91, mL92, mL93, mL94, mL95, mL96, mL97, mL98, mL100, mL101, mL102, mL103]; omega)) (by exact (by rw [pMa (by decide), up_c (by decide), up_up]; rfl)) ?_
          refine k_iconst (pc' := 118) (v := nI 0) dX10_done_117 rfl ?_
          refine k_istore_n (pc' := 119) dX10_done_118 (Nat.le_of_ble_eq_true rfl) rfl ?_
          refine loopU (fun i df => OkP G mX10_done 1 (rI (mCh N (a 85) (a 97)) (putM G σ N R.1 T z R.2 tb)) 119 [some (.ref (adr G 84)), some (.int (mCh N (a 85) (a 97))), some (.int (nI k)), some (.int (nI i))] [] (putM G σ N 8 T z (va_up (va_up a 88 (upd x.1 (k - 1) (x.1 k))) 89 df) tb)) (mSh1 k) 36 0 36 x.2 (by omega) ?_ ?_
          · intro i df _ hi ih2
            refine k_iload_n (pc' := 120) dX10_done_119 rfl ?_
            refine k_bipush (pc' := 122) (v := nI 36) dX10_done_120 rfl ?_
            refine k_icmp_ge (tgt := 155) (pc' := 125) dX10_done_122 rfl (fun zz_ => absurd zz_ (nI_ge (by omega) (by omega))) (fun _ => ?_)
            refine k_aload_n (pc' := 126) dX10_done_125 rfl ?_
            refine p_get (pc' := 129) clX10 (Nat.le_of_ble_eq_true rfl) fl_RX10_28 dX10_done_126 (by first | assumption | decide | omega) (by first | rfl | assumption) rfl ?_
            refine k_bipush (pc' := 131) (v := nI 36) dX10_done_129 rfl ?_
            refine k_iload_n (pc' := 132) dX10_done_131 rfl ?_
            refine k_iconst (pc' := 133) (v := nI 1) dX10_done_132 rfl ?_
            refine k_isub (pc' := 134) dX10_done_133 (by first | exact pk_sub (by omega) | rfl) ?_
            refine k_imul (pc' := 135) dX10_done_134 (by first | exact pk_mul _ _ | rfl) ?_
            refine k_iload_n (pc' := 136) dX10_done_135 rfl ?_
            refine k_iadd (pc' := 137) dX10_done_136 (by first | exact nI_add _ _ | rfl) ?_
            refine k_aload_n (pc' := 138) dX10_done_137 rfl ?_
            refine p_get (pc' := 141) clX10 (Nat.le_of_ble_eq_true rfl) fl_RX10_28 dX10_done_138 (by first | assumption | decide | omega) (by first | rfl | assumption) rfl ?_
            refine k_bipush (pc' := 143) (v := nI 36) dX10_done_141 rfl ?_
            refine k_iload_n (pc' := 144) dX10_done_143 rfl ?_
            refine k_imul (pc' := 145) dX10_done_144 (by first | exact pk_mul _ _ | rfl) ?_
            refine k_iload_n (pc' := 146) dX10_done_145 rfl ?_
            refine k_iadd (pc' := 147) dX10_done_146 (by first | exact nI_add _ _ | rfl) ?_
            refine p_ialdN (pc' := 148) dX10_done_147 (by first | assumption | decide | omega) (by first | rfl | assumption) (by first | decide | omega) (by first | omega | (simp only [mL85, mL86, mL87, mL88, mL89, mL90, mL91, mL92, mL93, mL94, mL95, mL96, mL97, mL98, mL100, mL101, mL102, mL103]; omega)) ?_
            refine p_iastN (pc' := 149) (σ1 := putM G σ N 8 T z (va_up (va_up a 88 (upd x.1 (k - 1) (x.1 k))) 89 (mSh1 k i df)) tb) dX10_done_148 (by first | assumption | decide | omega) (by first | rfl | assumption) (by first | decide | omega) (by first | omega | (simp only [mL85, mL86, mL87, mL88, mL89, mL90, mL91, mL92, mL93, mL94, mL95, mL96, mL97, mL98, mL100, mL101, mL102, mL103]; omega)) (by exact (by rw [pMa (by decide), up_up]; rfl)) ?_
            refine k_iinc (pc' := 152) (v := nI (i + 1)) dX10_done_149 rfl (nI_inc _) (Nat.le_of_ble_eq_true rfl) rfl ?_
            refine k_goto (tgt := 119) dX10_done_152 rfl ?_
            exact ih2
          · refine k_iload_n (pc' := 120) dX10_done_119 rfl ?_
            refine k_bipush (pc' := 122) (v := nI 36) dX10_done_120 rfl ?_
            refine k_icmp_ge (tgt := 155) (pc' := 125) dX10_done_122 rfl (fun _ => ?_) (fun zz_ => absurd (nI_le (by omega) (by omega)) zz_)
            refine k_iinc (pc' := 158) (v := nI (k + 1)) dX10_done_155 rfl (nI_inc _) (Nat.le_of_ble_eq_true rfl) rfl ?_
            refine k_goto (tgt := 97) dX10_done_158 rfl ?_
            exact ih _
        · intro y2
          refine k_iload_n (pc' := 98) dX10_done_97 rfl ?_
          refine k_bipush (pc' := 100) (v := nI 8) dX10_done_98 rfl ?_
          refine k_icmp_ge (tgt := 161) (pc' := 103) dX10_done_100 rfl (fun _ => ?_) (fun zz_ => absurd (nI_le (by omega) (by omega)) zz_)
          refine k_aload_n (pc' := 162) dX10_done_161 rfl ?_
          refine k_dup (pc' := 163) dX10_done_162 rfl ?_
          refine p_get (pc' := 166) clX10 (Nat.le_of_ble_eq_true rfl) fl_RX10_100 dX10_done_163 (by first | assumption | decide | omega) (by first | rfl | assumption) rfl ?_
          refine k_iconst (pc' := 167) (v := nI 1) dX10_done_166 rfl ?_
          refine k_isub (pc' := 168) dX10_done_167 (by first | exact pk_sub (by omega) | rfl) ?_
          refine p_putI (pc' := 171) clX10 (Nat.le_of_ble_eq_true rfl) fl_RX10_100 dX10_done_168 rfl (Or.inl rfl) (by first | assumption | decide | omega) (by first | rfl | assumption) (Nat.le_of_ble_eq_true rfl) (by exact pMz4) ?_
          exact keep 7 (upn 7 1 mSh (a 88, a 89)) _ _ (by decide) hR.symm
      · have e1 : mDn D (z 18) (a 97) (a 88, a 89) = (D + 1, mKp D (z 18) (a 97) (a 88, a 89)) := if_neg h8
        rw [e1] at hR
        refine k_aload_n (pc' := 87) dX10_done_86 rfl ?_
        refine p_get (pc' := 90) clX10 (Nat.le_of_ble_eq_true rfl) fl_RX10_100 dX10_done_87 (by first | assumption | decide | omega) (by first | rfl | assumption) rfl ?_
        refine k_bipush (pc' := 92) (v := nI 8) dX10_done_90 rfl ?_
        refine k_icmp_ne (tgt := 171) (pc' := 95) dX10_done_92 rfl (fun _ => ?_) (fun zz_ => absurd zz_ (by rw [nI_eq (by omega) (by decide)]; exact h8))
        have k2 := keep D (a 88, a 89) y1 y (by omega) hR.symm
        have e2 : va_up (va_up a 88 (a 88)) 89 (a 89) = a := by rw [up_id rfl, up_id rfl]
        dsimp only at k2
        rw [e2] at k2
        exact k2
    by_cases hc0 : mCh N (a 85) (a 97) = 0
    · by_cases hcN : nI N = z 18
      · have e : R = (D, a) := by rw [← hR]; unfold mDo; rw [if_pos ⟨hc0, hcN⟩]
        subst e
        refine k_iload_n (pc' := 70) dX10_done_69 rfl ?_
        refine k_if_ne (tgt := 86) (pc' := 73) dX10_done_70 rfl (fun zz_ => absurd hc0 zz_) (fun _ => ?_)
        refine k_aload_n (pc' := 74) dX10_done_73 rfl ?_
        refine p_get (pc' := 77) clX10 (Nat.le_of_ble_eq_true rfl) fl_RX10_9 dX10_done_74 (by first | assumption | decide | omega) (by first | rfl | assumption) rfl ?_
        refine k_aload_n (pc' := 78) dX10_done_77 rfl ?_
        refine p_get (pc' := 81) clX10 (Nat.le_of_ble_eq_true rfl) fl_RX10_93 dX10_done_78 (by first | assumption | decide | omega) (by first | rfl | assumption) rfl ?_
        refine k_icmp_ne (tgt := 86) (pc' := 84) dX10_done_81 rfl (fun zz_ => absurd hcN zz_) (fun _ => ?_)
        refine k_iconst (pc' := 85) (v := nI 0) dX10_done_84 rfl ?_
        refine p_ireturn dX10_done_85 rfl ?_
        exact ⟨by rw [hc0]; rfl, rfl⟩
      · refine k_iload_n (pc' := 70) dX10_done_69 rfl ?_
        refine k_if_ne (tgt := 86) (pc' := 73) dX10_done_70 rfl (fun zz_ => absurd hc0 zz_) (fun _ => ?_)
        refine k_aload_n (pc' := 74) dX10_done_73 rfl ?_
        refine p_get (pc' := 77) clX10 (Nat.le_of_ble_eq_true rfl) fl_RX10_9 dX10_done_74 (by first | assumption | decide | omega) (by first | rfl | assumption) rfl ?_
        refine k_aload_n (pc' := 78) dX10_done_77 rfl ?_
        refine p_get (pc' := 81) clX10 (Nat.le_of_ble_eq_true rfl) fl_RX10_93 dX10_done_78 (by first | assumption | decide | omega) (by first | rfl | assumption) rfl ?_
        refine k_icmp_ne (tgt := 86) (pc' := 84) dX10_done_81 rfl (fun _ => ?_) (fun zz_ => absurd zz_ hcN)
        exact deed (fun q => hcN q.2) _
    · refine k_iload_n (pc' := 70) dX10_done_69 rfl ?_
      refine k_if_ne (tgt := 86) (pc' := 73) dX10_done_70 rfl (fun _ => ?_) (fun zz_ => absurd zz_ hc0)
      exact deed (fun q => hc0 q.1) _
end MODEL2
