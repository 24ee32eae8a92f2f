section JDK
variable {l : Launch}
theorem Met.ofWF {y : MethodName} {ws ws' : List Cond} {rm : Room} {Pc : Array Value → State → Prop} {Qc : Array Value → State → Outcome → State → Prop} {mc ms : Nat} {free : Addr → Prop} {cc : ByteArray} {maxL : Nat} {ret : Option FieldType}
    (hy : plainFor y = true) (hw : ws = Cond.code y cc maxL ret :: ws')
    (body : ∀ p e s m args below meth c s₁, BodyLoose p l y (headSpec ws rm) cc maxL ret e s m args below meth c s₁ → c.maxLocals = maxL → Pc args s →
      W p l e (headSpec ws rm).room s m args below meth c s.heap [] 0 0 (MQ below Qc args s mc ms free) (entryFrame m args maxL)) : Met l y ws rm Pc Qc mc ms free := by
  refine MetFree.of_bodySF (code := cc) (maxLocals := maxL) (ret := ret) hy ?_ ?_
  · intro args s m h hn
    obtain ⟨meth, c, h1, h2, h3, h4, h5, h6, -, -⟩ := Cond.code_spec hn (atoms_spec (ws := ws) h _ (by rw [hw]; exact List.mem_cons_self))
    exact ⟨meth, c, h1, h2, h3, h4, h5, h6⟩
  · intro p e s m args below meth c s₁ B hml hP _
    have hh0 : s₁.heap = s.heap := by rw [B.state]; rfl
    obtain ⟨t, a1, o, b1, b2, b3⟩ := body p e s m args below meth c s₁ B hml hP s₁ hh0 (Stand.of_body B)
    exact ⟨t, o, a1, b1, b2, ⟨b3.1, b3.2⟩⟩
theorem ConP.ofF {G : GT} {μ : MI} {d : Nat} {Q : Option Value → Sto → Prop} {σ : Sto} {av : List Value} (hpn : plainFor μ.1 = true) (hlen : (lg_sl av).length ≤ μ.2.2.1) (h : OkP G μ d Q 0 (lvin μ.2.2.1 av) [] σ) : ConP G μ d av σ Q := by
  intro sz
  refine Met.ofWF (cc := μ.2.1) (maxL := μ.2.2.1) (ret := μ.2.2.2) hpn rfl ?_
  intro p e s m args below meth c s₁ B hml hv
  obtain ⟨rfl, hsz, hP, hK, hD0⟩ := hv
  subst hsz
  have hts0 := atoms_spec (ws := Cond.code μ.1 μ.2.1 μ.2.2.1 μ.2.2.2 :: TT) B.pre
  have hl := lv_entry av hlen
  rw [lg_entry_eq]
  exact h p e s m _ below meth c (va_A (wl G σ) s.heap.size) s.heap [] _ ⟨B.exec, B.bytes, B.returns, hml, findClass_of_methodNamed B.named, fun w hw => hts0 w (List.mem_cons_of_mem _ hw), B.notSynchronized, (name_of_methodNamed B.named B.method).1⟩ hK (fun q hq => Or.inr hq) hP (hD0.self) va_S.rf (lhas.of hl (fun i v hi => by
    have := lvi_args av (μ.2.2.1 - (lvi av).length) 0 i v hi
    simpa using this))
end JDK
/-- Math.floorMod of longs, as its code has it -/
def fMod (x y : Int64) : Int64 := if 0 ≤ lg_cmp (x ^^^ y) 0 ∨ lg_cmp (x - x / y * y) 0 = 0 then x - x / y * y else x - x / y * y + y
theorem c_floorMod {G : GT} {σ : Sto} {x y : Int64} (hy : ¬ y = 0) : ConP G mJ9_floorMod_f86c9 1 [.long x, .long y] σ (rL (fMod x y) σ) := by
  refine ConP.ofF (by decide +kernel) (Nat.le_of_ble_eq_true rfl) ?_
  refine k_lload_n (pc' := 1) dJ9_floorMod_f86c9_0 rfl ?_
  refine k_lload_n (pc' := 2) dJ9_floorMod_f86c9_1 rfl ?_
  refine k_lrem (pc' := 3) dJ9_floorMod_f86c9_2 hy rfl ?_
  refine k_lstore (pc' := 5) dJ9_floorMod_f86c9_3 (Nat.le_of_ble_eq_true rfl) rfl ?_
  refine k_lload_n (pc' := 6) dJ9_floorMod_f86c9_5 rfl ?_
  refine k_lload_n (pc' := 7) dJ9_floorMod_f86c9_6 rfl ?_
  refine k_lxor (pc' := 8) dJ9_floorMod_f86c9_7 rfl ?_
  refine k_lconst (pc' := 9) (v := 0) dJ9_floorMod_f86c9_8 rfl ?_
  refine k_lcmp (pc' := 10) dJ9_floorMod_f86c9_9 ?_
  refine k_if_ge (tgt := 25) (pc' := 13) dJ9_floorMod_f86c9_10 rfl (fun c_10 => ?_) (fun c_10 => ?_)
  · refine k_lload (pc' := 27) dJ9_floorMod_f86c9_25 rfl ?_
    refine p_lreturn dJ9_floorMod_f86c9_27 rfl ?_
    exact ⟨by unfold fMod; rw [if_pos (Or.inl c_10)], rfl⟩
  · refine k_lload (pc' := 15) dJ9_floorMod_f86c9_13 rfl ?_
    refine k_lconst (pc' := 16) (v := 0) dJ9_floorMod_f86c9_15 rfl ?_
    refine k_lcmp (pc' := 17) dJ9_floorMod_f86c9_16 ?_
    refine k_if_eq (tgt := 25) (pc' := 20) dJ9_floorMod_f86c9_17 rfl (fun c_17 => ?_) (fun c_17 => ?_)
    · refine k_lload (pc' := 27) dJ9_floorMod_f86c9_25 rfl ?_
      refine p_lreturn dJ9_floorMod_f86c9_27 rfl ?_
      exact ⟨by unfold fMod; rw [if_pos (Or.inr c_17)], rfl⟩
    · refine k_lload (pc' := 22) dJ9_floorMod_f86c9_20 rfl ?_
      refine k_lload_n (pc' := 23) dJ9_floorMod_f86c9_22 rfl ?_
      refine k_ladd (pc' := 24) dJ9_floorMod_f86c9_23 rfl ?_
      refine p_lreturn dJ9_floorMod_f86c9_24 rfl ?_
      exact ⟨by unfold fMod; rw [if_neg (fun z => z.elim c_10 c_17)], rfl⟩
/-! SumSearch: the object at 61, numbers 62, apart 63, left 64 -/
abbrev SS : Type := (Nat → Int32) × (Nat → Int32) × (Nat → Int32)
def putS (G : GT) (σ : Sto) (P L : Nat) (w : SS) : Sto := fun q =>
  if q = 61 then ob 5 [.ref (adr G 62), .ref (adr G 63), .ref (adr G 64), .int (nI P), .int (nI L)]
  else if q = 62 then aI G 32 w.1 else if q = 63 then aI G 32 w.2.1 else if q = 64 then aI G 15 w.2.2 else σ q
def sepB (a : Int32) (p : Nat) : Int32 := a >>> (nI p &&& 31) &&& nI 1
def lL1 (a : Int32) (lf : Nat → Int32) (p : Nat) (m : Int32) : Int32 := if sepB a p = nI 1 then (if lf p < m then lf p else m) else m
def lL (P : Nat) (a : Int32) (lf : Nat → Int32) : Int32 := upn P 0 (lL1 a lf) (nI 999)
def gN1 (a mo : Int32) (p : Nat) (f : Nat → Int32) : Nat → Int32 := upd f p (f p - sepB a p * mo)
def gN (P : Nat) (a mo : Int32) (lf : Nat → Int32) : Nat → Int32 := if mo = 0 then lf else upn P 0 (gN1 a mo) lf
def lAb (nu : Nat → Int32) : Nat → Nat
  | 0 => 0
  | k + 1 => if nu (k + 1) = 0 then lAb nu k else k + 1
def sTog (L : Nat) (nu : Nat → Int32) : Int32 := upn L 1 (fun s a => a + nu s) (nI 0)
def sst1 (N : Nat) (s : Nat) (w : SS) : SS := (upd w.1 s (nI 0), upd w.2.1 s (pA N (nI s)), w.2.2)
def sst (N : Nat) (far : Nat → Int32) (w : SS) : SS := upn (lC N) 1 (sst1 N) (w.1, w.2.1, va_cpy far w.2.2 0 0 (pN N))
section SUMS
variable {G : GT} {σ : Sto} {P L : Nat} {w : SS}
theorem pS61 : putS G σ P L w 61 = ob 5 [.ref (adr G 62), .ref (adr G 63), .ref (adr G 64), .int (nI P), .int (nI L)] := rfl
theorem pS62 : putS G σ P L w 62 = aI G 32 w.1 := rfl
theorem pS63 : putS G σ P L w 63 = aI G 32 w.2.1 := rfl
theorem pS64 : putS G σ P L w 64 = aI G 15 w.2.2 := rfl
theorem pSn {q : Nat} (h : q < 61 ∨ 64 < q) : putS G σ P L w q = σ q := by
  unfold putS
  rw [if_neg (by omega), if_neg (by omega), if_neg (by omega), if_neg (by omega)]
theorem pS_T {t M : Nat} {f : Nat → Int32} (h : isT G σ t M f) (ht : t + 1 < 61) : isT G (putS G σ P L w) t M f := ⟨h.1, h.2.1, (pSn (by omega)).trans h.2.2.1, (pSn (by omega)).trans h.2.2.2.1, h.2.2.2.2⟩
theorem pS_nu {b : Nat → Int32} : va_up (putS G σ P L w) 62 (aI G 32 b) = putS G σ P L (b, w.2) := by
  funext q
  by_cases h : q = 62
  · subst h; rfl
  · rw [up_n h]; unfold putS; simp only [h, if_false]
theorem pS_ap {b : Nat → Int32} : va_up (putS G σ P L w) 63 (aI G 32 b) = putS G σ P L (w.1, b, w.2.2) := by
  funext q
  by_cases h : q = 63
  · subst h; rfl
  · rw [up_n h]; unfold putS; simp only [h, if_false]
theorem pS_lf {b : Nat → Int32} : va_up (putS G σ P L w) 64 (aI G 15 b) = putS G σ P L (w.1, w.2.1, b) := by
  funext q
  by_cases h : q = 64
  · subst h; rfl
  · rw [up_n h]; unfold putS; simp only [h, if_false]
theorem pS_o {P2 L2 : Nat} : va_up (putS G σ P L w) 61 (ob 5 [.ref (adr G 62), .ref (adr G 63), .ref (adr G 64), .int (nI P2), .int (nI L2)]) = putS G σ P2 L2 w := by
  funext q
  by_cases h : q = 61
  · subst h; rfl
  · rw [up_n h]; unfold putS; simp only [h, if_false]
theorem c_leastLeft (hP : P ≤ 15) {s : Nat} (hs : s < 32) : ConP G mX5_leastLeft 1 [.ref (adr G 61), .int (nI s)] (putS G σ P L w) (rI (lL P (w.2.1 s) w.2.2) (putS G σ P L w)) := by
  refine ConP.of rfl (Nat.le_of_ble_eq_true rfl) ?_
  refine k_sipush (pc' := 3) (v := nI 999) dX5_leastLeft_0 rfl ?_
  refine k_istore_n (pc' := 4) dX5_leastLeft_3 (Nat.le_of_ble_eq_true rfl) rfl ?_
  refine k_iconst (pc' := 5) (v := nI 0) dX5_leastLeft_4 rfl ?_
  refine k_istore_n (pc' := 6) dX5_leastLeft_5 (Nat.le_of_ble_eq_true rfl) rfl ?_
  refine loopU (fun p m => OkP G mX5_leastLeft 1 (rI (lL P (w.2.1 s) w.2.2) (putS G σ P L w)) 6 [some (.ref (adr G 61)), some (.int (nI s)), some (.int m), some (.int (nI p))] [] (putS G σ P L w)) (lL1 (w.2.1 s) w.2.2) P 0 P (nI 999) (by omega) ?_ ?_
  · intro p m _ hp ih
    by_cases hc : sepB (w.2.1 s) p = nI 1
    · rw [show lL1 (w.2.1 s) w.2.2 p m = (if w.2.2 p < m then w.2.2 p else m) from if_pos hc] at ih
      refine k_iload_n (pc' := 7) dX5_leastLeft_6 rfl ?_
      refine k_aload_n (pc' := 8) dX5_leastLeft_7 rfl ?_
      refine p_get (pc' := 11) clX5 (Nat.le_of_ble_eq_true rfl) fl_RX5_21 dX5_leastLeft_8 (by first | assumption | decide | omega) pS61 rfl ?_
      refine k_icmp_ge (tgt := 45) (pc' := 14) dX5_leastLeft_11 rfl (fun zz_ => absurd zz_ (nI_ge (by omega) (by omega))) (fun _ => ?_)
      refine k_aload_n (pc' := 15) dX5_leastLeft_14 rfl ?_
      refine p_get (pc' := 18) clX5 (Nat.le_of_ble_eq_true rfl) fl_RX5_15 dX5_leastLeft_15 (by first | assumption | decide | omega) pS61 rfl ?_
      refine k_iload_n (pc' := 19) dX5_leastLeft_18 rfl ?_
      refine p_ialdN (pc' := 20) dX5_leastLeft_19 (by first | assumption | decide | omega) pS63 (by first | decide | omega) (by omega) ?_
      refine k_iload_n (pc' := 21) dX5_leastLeft_20 rfl ?_
      refine k_ishr (pc' := 22) dX5_leastLeft_21 rfl ?_
      refine k_iconst (pc' := 23) (v := nI 1) dX5_leastLeft_22 rfl ?_
      refine k_iand (pc' := 24) dX5_leastLeft_23 rfl ?_
      refine k_iconst (pc' := 25) (v := nI 1) dX5_leastLeft_24 rfl ?_
      refine k_icmp_ne (tgt := 39) (pc' := 28) dX5_leastLeft_25 rfl (fun zz_ => absurd hc zz_) (fun _ => ?_)
      refine k_iload_n (pc' := 29) dX5_leastLeft_28 rfl ?_
      refine k_aload_n (pc' := 30) dX5_leastLeft_29 rfl ?_
      refine p_get (pc' := 33) clX5 (Nat.le_of_ble_eq_true rfl) fl_RX5_18 dX5_leastLeft_30 (by first | assumption | decide | omega) pS61 rfl ?_
      refine k_iload_n (pc' := 34) dX5_leastLeft_33 rfl ?_
      refine p_ialdN (pc' := 35) dX5_leastLeft_34 (by first | assumption | decide | omega) pS64 (by first | decide | omega) (by omega) ?_
      refine p_min (pc' := 38) dX5_leastLeft_35 ml_RX5_67 (by decide) (Nat.le_of_ble_eq_true rfl) rfl ?_
      refine k_istore_n (pc' := 39) dX5_leastLeft_38 (Nat.le_of_ble_eq_true rfl) rfl ?_
      refine k_iinc (pc' := 42) (v := nI (p + 1)) dX5_leastLeft_39 rfl (nI_inc _) (Nat.le_of_ble_eq_true rfl) rfl ?_
      refine k_goto (tgt := 6) dX5_leastLeft_42 rfl ?_
      exact ih
    · rw [show lL1 (w.2.1 s) w.2.2 p m = m from if_neg hc] at ih
      refine k_iload_n (pc' := 7) dX5_leastLeft_6 rfl ?_
      refine k_aload_n (pc' := 8) dX5_leastLeft_7 rfl ?_
      refine p_get (pc' := 11) clX5 (Nat.le_of_ble_eq_true rfl) fl_RX5_21 dX5_leastLeft_8 (by first | assumption | decide | omega) pS61 rfl ?_
      refine k_icmp_ge (tgt := 45) (pc' := 14) dX5_leastLeft_11 rfl (fun zz_ => absurd zz_ (nI_ge (by omega) (by omega))) (fun _ => ?_)
      refine k_aload_n (pc' := 15) dX5_leastLeft_14 rfl ?_
      refine p_get (pc' := 18) clX5 (Nat.le_of_ble_eq_true rfl) fl_RX5_15 dX5_leastLeft_15 (by first | assumption | decide | omega) pS61 rfl ?_
      refine k_iload_n (pc' := 19) dX5_leastLeft_18 rfl ?_
      refine p_ialdN (pc' := 20) dX5_leastLeft_19 (by first | assumption | decide | omega) pS63 (by first | decide | omega) (by omega) ?_
      refine k_iload_n (pc' := 21) dX5_leastLeft_20 rfl ?_
      refine k_ishr (pc' := 22) dX5_leastLeft_21 rfl ?_
      refine k_iconst (pc' := 23) (v := nI 1) dX5_leastLeft_22 rfl ?_
      refine k_iand (pc' := 24) dX5_leastLeft_23 rfl ?_
      refine k_iconst (pc' := 25) (v := nI 1) dX5_leastLeft_24 rfl ?_
      refine k_icmp_ne (tgt := 39) (pc' := 28) dX5_leastLeft_25 rfl (fun _ => ?_) (fun zz_ => absurd zz_ hc)
      refine k_iinc (pc' := 42) (v := nI (p + 1)) dX5_leastLeft_39 rfl (nI_inc _) (Nat.le_of_ble_eq_true rfl) rfl ?_
      refine k_goto (tgt := 6) dX5_leastLeft_42 rfl ?_
      exact ih
  · refine k_iload_n (pc' := 7) dX5_leastLeft_6 rfl ?_
    refine k_aload_n (pc' := 8) dX5_leastLeft_7 rfl ?_
    refine p_get (pc' := 11) clX5 (Nat.le_of_ble_eq_true rfl) fl_RX5_21 dX5_leastLeft_8 (by first | assumption | decide | omega) pS61 rfl ?_
    refine k_icmp_ge (tgt := 45) (pc' := 14) dX5_leastLeft_11 rfl (fun _ => ?_) (fun zz_ => absurd (nI_le (by omega) (by omega)) zz_)
    refine k_iload_n (pc' := 46) dX5_leastLeft_45 rfl ?_
    refine p_ireturn dX5_leastLeft_46 rfl ?_
    exact ⟨rfl, rfl⟩
theorem c_giveNumber (hP : P ≤ 15) {s : Nat} (hs : s < 32) {v : Int32} : ConP G mX5_giveNumber 1 [.ref (adr G 61), .int (nI s), .int v] (putS G σ P L w) (rV (putS G σ P L (upd w.1 s v, w.2.1, gN P (w.2.1 s) (v - w.1 s) w.2.2))) := by
  refine ConP.of rfl (Nat.le_of_ble_eq_true rfl) ?_
  refine k_iload_n (pc' := 1) dX5_giveNumber_0 rfl ?_
  refine k_aload_n (pc' := 2) dX5_giveNumber_1 rfl ?_
  refine p_get (pc' := 5) clX5 (Nat.le_of_ble_eq_true rfl) fl_RX5_9 dX5_giveNumber_2 (by first | assumption | decide | omega) pS61 rfl ?_
  refine k_iload_n (pc' := 6) dX5_giveNumber_5 rfl ?_
  refine p_ialdN (pc' := 7) dX5_giveNumber_6 (by first | assumption | decide | omega) pS62 (by first | decide | omega) (by omega) ?_
  refine k_isub (pc' := 8) dX5_giveNumber_7 rfl ?_
  refine k_istore_n (pc' := 9) dX5_giveNumber_8 (Nat.le_of_ble_eq_true rfl) rfl ?_
  refine k_iconst (pc' := 10) (v := nI 0) dX5_giveNumber_9 rfl ?_
  refine k_istore (pc' := 12) dX5_giveNumber_10 (Nat.le_of_ble_eq_true rfl) rfl ?_
  by_cases hm : v - w.1 s = 0
  · have e : gN P (w.2.1 s) (v - w.1 s) w.2.2 = w.2.2 := if_pos hm
    rw [e]
    by_cases h0 : P ≤ 0
    · refine k_iload (pc' := 14) dX5_giveNumber_12 rfl ?_
      refine k_aload_n (pc' := 15) dX5_giveNumber_14 rfl ?_
      refine p_get (pc' := 18) clX5 (Nat.le_of_ble_eq_true rfl) fl_RX5_21 dX5_giveNumber_15 (by first | assumption | decide | omega) pS61 rfl ?_
      refine k_icmp_ge (tgt := 54) (pc' := 21) dX5_giveNumber_18 rfl (fun _ => ?_) (fun zz_ => absurd (nI_le (by omega) (by omega)) zz_)
      refine k_aload_n (pc' := 55) dX5_giveNumber_54 rfl ?_
      refine p_get (pc' := 58) clX5 (Nat.le_of_ble_eq_true rfl) fl_RX5_9 dX5_giveNumber_55 (by first | assumption | decide | omega) pS61 rfl ?_
      refine k_iload_n (pc' := 59) dX5_giveNumber_58 rfl ?_
      refine k_iload_n (pc' := 60) dX5_giveNumber_59 rfl ?_
      refine p_iastN (pc' := 61) (σ1 := putS G σ P L (upd w.1 s v, w.2)) dX5_giveNumber_60 (by first | assumption | decide | omega) pS62 (by first | decide | omega) (by omega) (by exact pS_nu) ?_
      refine p_return dX5_giveNumber_61 rfl ?_
      exact ⟨rfl, rfl⟩
    · refine k_iload (pc' := 14) dX5_giveNumber_12 rfl ?_
      refine k_aload_n (pc' := 15) dX5_giveNumber_14 rfl ?_
      refine p_get (pc' := 18) clX5 (Nat.le_of_ble_eq_true rfl) fl_RX5_21 dX5_giveNumber_15 (by first | assumption | decide | omega) pS61 rfl ?_
      refine k_icmp_ge (tgt := 54) (pc' := 21) dX5_giveNumber_18 rfl (fun zz_ => absurd zz_ (nI_ge (by omega) (by omega))) (fun _ => ?_)
      refine k_iload_n (pc' := 22) dX5_giveNumber_21 rfl ?_
      refine k_if_eq (tgt := 54) (pc' := 25) dX5_giveNumber_22 rfl (fun _ => ?_) (fun zz_ => absurd hm zz_)
      refine k_aload_n (pc' := 55) dX5_giveNumber_54 rfl ?_
      refine p_get (pc' := 58) clX5 (Nat.le_of_ble_eq_true rfl) fl_RX5_9 dX5_giveNumber_55 (by first | assumption | decide | omega) pS61 rfl ?_
      refine k_iload_n (pc' := 59) dX5_giveNumber_58 rfl ?_
      refine k_iload_n (pc' := 60) dX5_giveNumber_59 rfl ?_
      refine p_iastN (pc' := 61) (σ1 := putS G σ P L (upd w.1 s v, w.2)) dX5_giveNumber_60 (by first | assumption | decide | omega) pS62 (by first | decide | omega) (by omega) (by exact pS_nu) ?_
      refine p_return dX5_giveNumber_61 rfl ?_
      exact ⟨rfl, rfl⟩
  · have e : gN P (w.2.1 s) (v - w.1 s) w.2.2 = upn P 0 (gN1 (w.2.1 s) (v - w.1 s)) w.2.2 := if_neg hm
    rw [e]
    refine loopU (fun p f => OkP G mX5_giveNumber 1 (rV (putS G σ P L (upd w.1 s v, w.2.1, upn P 0 (gN1 (w.2.1 s) (v - w.1 s)) w.2.2))) 12 [some (.ref (adr G 61)), some (.int (nI s)), some (.int v), some (.int (v - w.1 s)), some (.int (nI p))] [] (putS G σ P L (w.1, w.2.1, f))) (gN1 (w.2.1 s) (v - w.1 s)) P 0 P w.2.2 (by omega) ?_ ?_
    · intro p f _ hp ih
      refine k_iload (pc' := 14) dX5_giveNumber_12 rfl ?_
      refine k_aload_n (pc' := 15) dX5_giveNumber_14 rfl ?_
      refine p_get (pc' := 18) clX5 (Nat.le_of_ble_eq_true rfl) fl_RX5_21 dX5_giveNumber_15 (by first | assumption | decide | omega) pS61 rfl ?_
      refine k_icmp_ge (tgt := 54) (pc' := 21) dX5_giveNumber_18 rfl (fun zz_ => absurd zz_ (nI_ge (by omega) (by omega))) (fun _ => ?_)
      refine k_iload_n (pc' := 22) dX5_giveNumber_21 rfl ?_
      refine k_if_eq (tgt := 54) (pc' := 25) dX5_giveNumber_22 rfl (fun zz_ => absurd zz_ hm) (fun _ => ?_)
      refine k_aload_n (pc' := 26) dX5_giveNumber_25 rfl ?_
      refine p_get (pc' := 29) clX5 (Nat.le_of_ble_eq_true rfl) fl_RX5_18 dX5_giveNumber_26 (by first | assumption | decide | omega) pS61 rfl ?_
      refine k_iload (pc' := 31) dX5_giveNumber_29 rfl ?_
      refine k_dup2 (pc' := 32) dX5_giveNumber_31 rfl rfl ?_
      refine p_ialdN (pc' := 33) dX5_giveNumber_32 (by first | assumption | decide | omega) pS64 (by first | decide | omega) (by omega) ?_
      refine k_aload_n (pc' := 34) dX5_giveNumber_33 rfl ?_
      refine p_get (pc' := 37) clX5 (Nat.le_of_ble_eq_true rfl) fl_RX5_15 dX5_giveNumber_34 (by first | assumption | decide | omega) pS61 rfl ?_
      refine k_iload_n (pc' := 38) dX5_giveNumber_37 rfl ?_
      refine p_ialdN (pc' := 39) dX5_giveNumber_38 (by first | assumption | decide | omega) pS63 (by first | decide | omega) (by omega) ?_
      refine k_iload (pc' := 41) dX5_giveNumber_39 rfl ?_
      refine k_ishr (pc' := 42) dX5_giveNumber_41 rfl ?_
      refine k_iconst (pc' := 43) (v := nI 1) dX5_giveNumber_42 rfl ?_
      refine k_iand (pc' := 44) dX5_giveNumber_43 rfl ?_
      refine k_iload_n (pc' := 45) dX5_giveNumber_44 rfl ?_
      refine k_imul (pc' := 46) dX5_giveNumber_45 rfl ?_
      refine k_isub (pc' := 47) dX5_giveNumber_46 rfl ?_
      refine p_iastN (pc' := 48) (σ1 := putS G σ P L (w.1, w.2.1, gN1 (w.2.1 s) (v - w.1 s) p f)) dX5_giveNumber_47 (by first | assumption | decide | omega) pS64 (by first | decide | omega) (by omega) (by exact pS_lf) ?_
      refine k_iinc (pc' := 51) (v := nI (p + 1)) dX5_giveNumber_48 rfl (nI_inc _) (Nat.le_of_ble_eq_true rfl) rfl ?_
      refine k_goto (tgt := 12) dX5_giveNumber_51 rfl ?_
      exact ih
    · refine k_iload (pc' := 14) dX5_giveNumber_12 rfl ?_
      refine k_aload_n (pc' := 15) dX5_giveNumber_14 rfl ?_
      refine p_get (pc' := 18) clX5 (Nat.le_of_ble_eq_true rfl) fl_RX5_21 dX5_giveNumber_15 (by first | assumption | decide | omega) pS61 rfl ?_
      refine k_icmp_ge (tgt := 54) (pc' := 21) dX5_giveNumber_18 rfl (fun _ => ?_) (fun zz_ => absurd (nI_le (by omega) (by omega)) zz_)
      refine k_aload_n (pc' := 55) dX5_giveNumber_54 rfl ?_
      refine p_get (pc' := 58) clX5 (Nat.le_of_ble_eq_true rfl) fl_RX5_9 dX5_giveNumber_55 (by first | assumption | decide | omega) pS61 rfl ?_
      refine k_iload_n (pc' := 59) dX5_giveNumber_58 rfl ?_
      refine k_iload_n (pc' := 60) dX5_giveNumber_59 rfl ?_
      refine p_iastN (pc' := 61) (σ1 := putS G σ P L (upd w.1 s v, w.2.1, upn P 0 (gN1 (w.2.1 s) (v - w.1 s)) w.2.2)) dX5_giveNumber_60 (by first | assumption | decide | omega) pS62 (by first | decide | omega) (by omega) (by exact pS_nu) ?_
      refine p_return dX5_giveNumber_61 rfl ?_
      exact ⟨rfl, rfl⟩
theorem c_nothingLeft (hP : P ≤ 15) : ConP G mX5_nothingLeft 1 [.ref (adr G 61)] (putS G σ P L w) (rI (bI (∀ p, p < P → w.2.2 p = 0)) (putS G σ P L w)) := by
  refine ConP.of rfl (Nat.le_of_ble_eq_true rfl) ?_
  refine k_iconst (pc' := 1) (v := nI 0) dX5_nothingLeft_0 rfl ?_
  refine k_istore_n (pc' := 2) dX5_nothingLeft_1 (Nat.le_of_ble_eq_true rfl) rfl ?_
  have main : ∀ n p, p + n = P → (∀ q, q < p → w.2.2 q = 0) → OkP G mX5_nothingLeft 1 (rI (bI (∀ p, p < P → w.2.2 p = 0)) (putS G σ P L w)) 2 [some (.ref (adr G 61)), some (.int (nI p))] [] (putS G σ P L w) := by
    intro n
    induction n with
    | zero =>
      intro p hn hq
      refine k_iload_n (pc' := 3) dX5_nothingLeft_2 rfl ?_
      refine k_aload_n (pc' := 4) dX5_nothingLeft_3 rfl ?_
      refine p_get (pc' := 7) clX5 (Nat.le_of_ble_eq_true rfl) fl_RX5_21 dX5_nothingLeft_4 (by first | assumption | decide | omega) pS61 rfl ?_
      refine k_icmp_ge (tgt := 27) (pc' := 10) dX5_nothingLeft_7 rfl (fun _ => ?_) (fun zz_ => absurd (nI_le (by omega) (by omega)) zz_)
      refine k_iconst (pc' := 28) (v := nI 1) dX5_nothingLeft_27 rfl ?_
      refine p_zreturn dX5_nothingLeft_28 rfl (by first | exact Or.inl rfl | exact Or.inr rfl) ?_
      exact ⟨by rw [bI_t (fun q h => hq q (by omega))]; rfl, rfl⟩
    | succ n ih =>
      intro p hn hq
      by_cases hz : w.2.2 p = 0
      · refine k_iload_n (pc' := 3) dX5_nothingLeft_2 rfl ?_
        refine k_aload_n (pc' := 4) dX5_nothingLeft_3 rfl ?_
        refine p_get (pc' := 7) clX5 (Nat.le_of_ble_eq_true rfl) fl_RX5_21 dX5_nothingLeft_4 (by first | assumption | decide | omega) pS61 rfl ?_
        refine k_icmp_ge (tgt := 27) (pc' := 10) dX5_nothingLeft_7 rfl (fun zz_ => absurd zz_ (nI_ge (by omega) (by omega))) (fun _ => ?_)
        refine k_aload_n (pc' := 11) dX5_nothingLeft_10 rfl ?_
        refine p_get (pc' := 14) clX5 (Nat.le_of_ble_eq_true rfl) fl_RX5_18 dX5_nothingLeft_11 (by first | assumption | decide | omega) pS61 rfl ?_
        refine k_iload_n (pc' := 15) dX5_nothingLeft_14 rfl ?_
        refine p_ialdN (pc' := 16) dX5_nothingLeft_15 (by first | assumption | decide | omega) pS64 (by first | decide | omega) (by omega) ?_
        refine k_if_eq (tgt := 21) (pc' := 19) dX5_nothingLeft_16 rfl (fun _ => ?_) (fun zz_ => absurd hz zz_)
        refine k_iinc (pc' := 24) (v := nI (p + 1)) dX5_nothingLeft_21 rfl (nI_inc _) (Nat.le_of_ble_eq_true rfl) rfl ?_
        refine k_goto (tgt := 2) dX5_nothingLeft_24 rfl ?_
        exact ih (p + 1) (by omega) (fun q h => by
          rcases Nat.lt_or_ge q p with h2 | h2
          · exact hq q h2
          · have : q = p := by omega
            subst this
            exact hz)
      · refine k_iload_n (pc' := 3) dX5_nothingLeft_2 rfl ?_
        refine k_aload_n (pc' := 4) dX5_nothingLeft_3 rfl ?_
        refine p_get (pc' := 7) clX5 (Nat.le_of_ble_eq_true rfl) fl_RX5_21 dX5_nothingLeft_4 (by first | assumption | decide | omega) pS61 rfl ?_
        refine k_icmp_ge (tgt := 27) (pc' := 10) dX5_nothingLeft_7 rfl (fun zz_ => absurd zz_ (nI_ge (by omega) (by omega))) (fun _ => ?_)
        refine k_aload_n (pc' := 11) dX5_nothingLeft_10 rfl ?_
        refine p_get (pc' := 14) clX5 (Nat.le_of_ble_eq_true rfl) fl_RX5_18 dX5_nothingLeft_11 (by first | assumption | decide | omega) pS61 rfl ?_
        refine k_iload_n (pc' := 15) dX5_nothingLeft_14 rfl ?_
        refine p_ialdN (pc' := 16) dX5_nothingLeft_15 (by first | assumption | decide | omega) pS64 (by first | decide | omega) (by omega) ?_
        refine k_if_eq (tgt := 21) (pc' := 19) dX5_nothingLeft_16 rfl (fun zz_ => absurd zz_ hz) (fun _ => ?_)
        refine k_iconst (pc' := 20) (v := nI 0) dX5_nothingLeft_19 rfl ?_
        refine p_zreturn dX5_nothingLeft_20 rfl (by first | exact Or.inl rfl | exact Or.inr rfl) ?_
        exact ⟨by rw [bI_f (fun z => hz (z p (by omega)))]; rfl, rfl⟩
  exact main P 0 (by omega) (fun q h => by omega)
theorem c_latestAbove0 (hL : L < 32) : ConP G mX5_latestAbove0 1 [.ref (adr G 61)] (putS G σ P L w) (rI (nI (lAb w.1 L)) (putS G σ P L w)) := by
  refine ConP.of rfl (Nat.le_of_ble_eq_true rfl) ?_
  refine k_aload_n (pc' := 1) dX5_latestAbove0_0 rfl ?_
  refine p_get (pc' := 4) clX5 (Nat.le_of_ble_eq_true rfl) fl_RX5_25 dX5_latestAbove0_1 (by first | assumption | decide | omega) pS61 rfl ?_
  refine k_istore_n (pc' := 5) dX5_latestAbove0_4 (Nat.le_of_ble_eq_true rfl) rfl ?_
  have main : ∀ k, k < 32 → ∀ r, lAb w.1 k = r → OkP G mX5_latestAbove0 1 (rI (nI r) (putS G σ P L w)) 5 [some (.ref (adr G 61)), some (.int (nI k))] [] (putS G σ P L w) := by
    intro k
    induction k with
    | zero =>
      intro _ r hr
      subst hr
      refine k_iload_n (pc' := 6) dX5_latestAbove0_5 rfl ?_
      refine k_if_le (tgt := 24) (pc' := 9) dX5_latestAbove0_6 rfl (fun _ => ?_) (fun zz_ => absurd (by decide) zz_)
      refine k_iload_n (pc' := 25) dX5_latestAbove0_24 rfl ?_
      refine p_ireturn dX5_latestAbove0_25 rfl ?_
      exact ⟨rfl, rfl⟩
    | succ k ih =>
      intro hk r hr
      unfold lAb at hr
      by_cases hz : w.1 (k + 1) = 0
      · rw [if_pos hz] at hr
        refine k_iload_n (pc' := 6) dX5_latestAbove0_5 rfl ?_
        refine k_if_le (tgt := 24) (pc' := 9) dX5_latestAbove0_6 rfl (fun zz_ => absurd zz_ (nI_nle (by omega) (by omega))) (fun _ => ?_)
        refine k_aload_n (pc' := 10) dX5_latestAbove0_9 rfl ?_
        refine p_get (pc' := 13) clX5 (Nat.le_of_ble_eq_true rfl) fl_RX5_9 dX5_latestAbove0_10 (by first | assumption | decide | omega) pS61 rfl ?_
        refine k_iload_n (pc' := 14) dX5_latestAbove0_13 rfl ?_
        refine p_ialdN (pc' := 15) dX5_latestAbove0_14 (by first | assumption | decide | omega) pS62 (by first | decide | omega) (by omega) ?_
        refine k_if_ne (tgt := 24) (pc' := 18) dX5_latestAbove0_15 rfl (fun zz_ => absurd hz zz_) (fun _ => ?_)
        refine k_iinc (pc' := 21) (v := nI k) dX5_latestAbove0_18 rfl (pk_m1 k) (Nat.le_of_ble_eq_true rfl) rfl ?_
        refine k_goto (tgt := 5) dX5_latestAbove0_21 rfl ?_
        exact ih (by omega) r hr
      · rw [if_neg hz] at hr
        subst hr
        refine k_iload_n (pc' := 6) dX5_latestAbove0_5 rfl ?_
        refine k_if_le (tgt := 24) (pc' := 9) dX5_latestAbove0_6 rfl (fun zz_ => absurd zz_ (nI_nle (by omega) (by omega))) (fun _ => ?_)
        refine k_aload_n (pc' := 10) dX5_latestAbove0_9 rfl ?_
        refine p_get (pc' := 13) clX5 (Nat.le_of_ble_eq_true rfl) fl_RX5_9 dX5_latestAbove0_10 (by first | assumption | decide | omega) pS61 rfl ?_
        refine k_iload_n (pc' := 14) dX5_latestAbove0_13 rfl ?_
        refine p_ialdN (pc' := 15) dX5_latestAbove0_14 (by first | assumption | decide | omega) pS62 (by first | decide | omega) (by omega) ?_
        refine k_if_ne (tgt := 24) (pc' := 18) dX5_latestAbove0_15 rfl (fun _ => ?_) (fun zz_ => absurd zz_ hz)
        refine k_iload_n (pc' := 25) dX5_latestAbove0_24 rfl ?_
        refine p_ireturn dX5_latestAbove0_25 rfl ?_
        exact ⟨rfl, rfl⟩
  exact main L hL _ rfl
theorem c_sTogether (hL : L < 32) : ConP G mX5_together 1 [.ref (adr G 61)] (putS G σ P L w) (rI (sTog L w.1) (putS G σ P L w)) := by
  refine ConP.of rfl (Nat.le_of_ble_eq_true rfl) ?_
  refine k_iconst (pc' := 1) (v := nI 0) dX5_together_0 rfl ?_
  refine k_istore_n (pc' := 2) dX5_together_1 (Nat.le_of_ble_eq_true rfl) rfl ?_
  refine k_iconst (pc' := 3) (v := nI 1) dX5_together_2 rfl ?_
  refine k_istore_n (pc' := 4) dX5_together_3 (Nat.le_of_ble_eq_true rfl) rfl ?_
  refine loopU (fun s a => OkP G mX5_together 1 (rI (sTog L w.1) (putS G σ P L w)) 4 [some (.ref (adr G 61)), some (.int a), some (.int (nI s))] [] (putS G σ P L w)) (fun s a => a + w.1 s) (1 + L) 1 L (nI 0) rfl ?_ ?_
  · intro s a hs1 hs ih
    refine k_iload_n (pc' := 5) dX5_together_4 rfl ?_
    refine k_aload_n (pc' := 6) dX5_together_5 rfl ?_
    refine p_get (pc' := 9) clX5 (Nat.le_of_ble_eq_true rfl) fl_RX5_25 dX5_together_6 (by first | assumption | decide | omega) pS61 rfl ?_
    refine k_icmp_gt (tgt := 27) (pc' := 12) dX5_together_9 rfl (fun zz_ => absurd zz_ (nI_nlt (by omega) (by omega))) (fun _ => ?_)
    refine k_iload_n (pc' := 13) dX5_together_12 rfl ?_
    refine k_aload_n (pc' := 14) dX5_together_13 rfl ?_
    refine p_get (pc' := 17) clX5 (Nat.le_of_ble_eq_true rfl) fl_RX5_9 dX5_together_14 (by first | assumption | decide | omega) pS61 rfl ?_
    refine k_iload_n (pc' := 18) dX5_together_17 rfl ?_
    refine p_ialdN (pc' := 19) dX5_together_18 (by first | assumption | decide | omega) pS62 (by first | decide | omega) (by omega) ?_
    refine k_iadd (pc' := 20) dX5_together_19 rfl ?_
    refine k_istore_n (pc' := 21) dX5_together_20 (Nat.le_of_ble_eq_true rfl) rfl ?_
    refine k_iinc (pc' := 24) (v := nI (s + 1)) dX5_together_21 rfl (nI_inc _) (Nat.le_of_ble_eq_true rfl) rfl ?_
    refine k_goto (tgt := 4) dX5_together_24 rfl ?_
    exact ih
  · refine k_iload_n (pc' := 5) dX5_together_4 rfl ?_
    refine k_aload_n (pc' := 6) dX5_together_5 rfl ?_
    refine p_get (pc' := 9) clX5 (Nat.le_of_ble_eq_true rfl) fl_RX5_25 dX5_together_6 (by first | assumption | decide | omega) pS61 rfl ?_
    refine k_icmp_gt (tgt := 27) (pc' := 12) dX5_together_9 rfl (fun _ => ?_) (fun zz_ => absurd (nI_lt (by omega) (by omega)) zz_)
    refine k_iload_n (pc' := 28) dX5_together_27 rfl ?_
    refine p_ireturn dX5_together_28 rfl ?_
    exact ⟨rfl, rfl⟩
theorem c_ssStart {t N : Nat} {far : Nat → Int32} (hT : isT G σ t N far) (ht : t + 1 < 61) : ConP G mX5_start 3 [.ref (adr G 61), .ref (adr G t)] (putS G σ P L w) (rV (putS G σ (pN N) (lC N) (sst N far w))) := by
  have hN := hT.2.2.2.2.1
  have hN6 := hT.2.2.2.2.2
  have hp := pN_le hN6
  have hl := lC_le hN hN6
  have c1 : (nI (pN N)).toNatClampNeg = pN N := nI_clamp (by omega)
  refine ConP.of rfl (Nat.le_of_ble_eq_true rfl) ?_
  refine k_aload_n (pc' := 1) dX5_start_0 rfl ?_
  refine k_aload_n (pc' := 2) dX5_start_1 rfl ?_
  refine p_vI (ν := mX6_pairCount) (pc' := 5) dX5_start_2 ml_RX5_48 mo_X6_pairCount mv_X6_pairCount clX6 (Nat.le_of_ble_eq_true rfl) rfl rfl (Nat.le_of_ble_eq_true rfl) hT.1 (pS_T hT ht).2.2.1 (by decide) (c_pairCount (pS_T hT ht)) ?_
  refine p_putI (pc' := 8) (σ1 := putS G σ (pN N) L w) clX5 (Nat.le_of_ble_eq_true rfl) fl_RX5_21 dX5_start_5 rfl (Or.inl rfl) (by first | assumption | decide | omega) pS61 (Nat.le_of_ble_eq_true rfl) (by exact pS_o) ?_
  refine k_aload_n (pc' := 9) dX5_start_8 rfl ?_
  refine p_get (pc' := 12) clX6 (Nat.le_of_ble_eq_true rfl) fl_RX5_53 dX5_start_9 hT.1 (pS_T hT ht).2.2.1 rfl ?_
  refine k_iconst (pc' := 13) (v := nI 0) dX5_start_12 rfl ?_
  refine k_aload_n (pc' := 14) dX5_start_13 rfl ?_
  refine p_get (pc' := 17) clX5 (Nat.le_of_ble_eq_true rfl) fl_RX5_18 dX5_start_14 (by first | assumption | decide | omega) pS61 rfl ?_
  refine k_iconst (pc' := 18) (v := nI 0) dX5_start_17 rfl ?_
  refine k_aload_n (pc' := 19) dX5_start_18 rfl ?_
  refine p_get (pc' := 22) clX5 (Nat.le_of_ble_eq_true rfl) fl_RX5_21 dX5_start_19 (by first | assumption | decide | omega) pS61 rfl ?_
  refine p_copyi (pc' := 25) dX5_start_22 ml_RX5_56 (by decide) (Nat.le_of_ble_eq_true rfl) hT.2.1 (pS_T hT ht).2.2.2.1 (by decide) pS64 (by decide) (by decide) (nI_pos (by omega)) (by rw [c1, show (nI 0).toNatClampNeg = 0 from rfl]; omega) (by rw [c1, show (nI 0).toNatClampNeg = 0 from rfl]; omega) ?_
  rw [c1, show (nI 0).toNatClampNeg = 0 from rfl, pS_lf]
  refine k_aload_n (pc' := 26) dX5_start_25 rfl ?_
  refine k_aload_n (pc' := 27) dX5_start_26 rfl ?_
  refine p_vI (ν := mX6_lastCut) (pc' := 30) dX5_start_27 ml_RX5_62 mo_X6_lastCut mv_X6_lastCut clX6 (Nat.le_of_ble_eq_true rfl) rfl rfl (Nat.le_of_ble_eq_true rfl) hT.1 (pS_T hT ht).2.2.1 (by decide) (c_lastCut (pS_T hT ht)) ?_
  refine p_putI (pc' := 33) (σ1 := putS G σ (pN N) (lC N) (w.1, w.2.1, va_cpy far w.2.2 0 0 (pN N))) clX5 (Nat.le_of_ble_eq_true rfl) fl_RX5_25 dX5_start_30 rfl (Or.inl rfl) (by first | assumption | decide | omega) pS61 (Nat.le_of_ble_eq_true rfl) (by exact pS_o) ?_
  refine k_iconst (pc' := 34) (v := nI 1) dX5_start_33 rfl ?_
  refine k_istore_n (pc' := 35) dX5_start_34 (Nat.le_of_ble_eq_true rfl) rfl ?_
  refine loopU (fun s w' => OkP G mX5_start 3 (rV (putS G σ (pN N) (lC N) (sst N far w))) 35 [some (.ref (adr G 61)), some (.ref (adr G t)), some (.int (nI s))] [] (putS G σ (pN N) (lC N) w')) (sst1 N) (1 + lC N) 1 (lC N) (w.1, w.2.1, va_cpy far w.2.2 0 0 (pN N)) rfl ?_ ?_
  · intro s w' hs1 hs ih
    refine k_iload_n (pc' := 36) dX5_start_35 rfl ?_
    refine k_aload_n (pc' := 37) dX5_start_36 rfl ?_
    refine p_get (pc' := 40) clX5 (Nat.le_of_ble_eq_true rfl) fl_RX5_25 dX5_start_37 (by first | assumption | decide | omega) pS61 rfl ?_
    refine k_icmp_gt (tgt := 67) (pc' := 43) dX5_start_40 rfl (fun zz_ => absurd zz_ (nI_nlt (by omega) (by omega))) (fun _ => ?_)
    refine k_aload_n (pc' := 44) dX5_start_43 rfl ?_
    refine p_get (pc' := 47) clX5 (Nat.le_of_ble_eq_true rfl) fl_RX5_9 dX5_start_44 (by first | assumption | decide | omega) pS61 rfl ?_
    refine k_iload_n (pc' := 48) dX5_start_47 rfl ?_
    refine k_iconst (pc' := 49) (v := nI 0) dX5_start_48 rfl ?_
    refine p_iastN (pc' := 50) (σ1 := putS G σ (pN N) (lC N) (upd w'.1 s (nI 0), w'.2)) dX5_start_49 (by first | assumption | decide | omega) pS62 (by first | decide | omega) (by omega) (by exact pS_nu) ?_
    refine k_aload_n (pc' := 51) dX5_start_50 rfl ?_
    refine p_get (pc' := 54) clX5 (Nat.le_of_ble_eq_true rfl) fl_RX5_15 dX5_start_51 (by first | assumption | decide | omega) pS61 rfl ?_
    refine k_iload_n (pc' := 55) dX5_start_54 rfl ?_
    refine k_aload_n (pc' := 56) dX5_start_55 rfl ?_
    refine k_iload_n (pc' := 57) dX5_start_56 rfl ?_
    refine p_vI (ν := mX6_pairsApart) (pc' := 60) dX5_start_57 ml_RX5_64 mo_X6_pairsApart mv_X6_pairsApart clX6 (Nat.le_of_ble_eq_true rfl) rfl rfl (Nat.le_of_ble_eq_true rfl) hT.1 (pS_T hT ht).2.2.1 (by decide) (c_pairsApart (pS_T hT ht) (nI s)) ?_
    refine p_iastN (pc' := 61) (σ1 := putS G σ (pN N) (lC N) (sst1 N s w')) dX5_start_60 (by first | assumption | decide | omega) pS63 (by first | decide | omega) (by omega) (by exact pS_ap) ?_
    refine k_iinc (pc' := 64) (v := nI (s + 1)) dX5_start_61 rfl (nI_inc _) (Nat.le_of_ble_eq_true rfl) rfl ?_
    refine k_goto (tgt := 35) dX5_start_64 rfl ?_
    exact ih
  · refine k_iload_n (pc' := 36) dX5_start_35 rfl ?_
    refine k_aload_n (pc' := 37) dX5_start_36 rfl ?_
    refine p_get (pc' := 40) clX5 (Nat.le_of_ble_eq_true rfl) fl_RX5_25 dX5_start_37 (by first | assumption | decide | omega) pS61 rfl ?_
    refine k_icmp_gt (tgt := 67) (pc' := 43) dX5_start_40 rfl (fun _ => ?_) (fun zz_ => absurd (nI_lt (by omega) (by omega)) zz_)
    refine p_return dX5_start_67 rfl ?_
    exact ⟨rfl, rfl⟩
end SUMS
