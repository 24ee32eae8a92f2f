/-! rows of the law -/
def lwS (s : State) : Nat → Prop := fun q => s.heap.size ≤ q
def LQ (p : Program) (e : Env) (s : State) (m : MethodId) (below : List Frame) (meth : Method) (c : Code) (G : GT) (b : Nat) (pc : Nat) (lv : List (Option Value)) (st : List Value) (ws : va_W) (ck cs : Nat) : Prop := ∀ (H : Heap) (locs : List Loc) (ls : Array Slot), va_P G.2.1 vwCl ws H → va_D (lwS s) ws → va_S (lwS s) s.heap H locs → lhas ls 4 lv → W p G.1 e room_1 s m #[Value.ref b] below meth c H locs ck cs (lw_Z below #[Value.ref b] s) (F0 m pc ls st)
section LAWQ
variable {p : Program} {e : Env} {s : State} {m : MethodId} {below : List Frame} {meth : Method} {c : Code} {G : GT} {b L : Nat} {xs : Nat → Int32} {pc pc' : Nat} {lv : List (Option Value)} {st : List Value} {ws : va_W} {ck cs : Nat}
theorem q_aload_n {i : Fin 4} {x : Nat} (C0 : lw_At p s m meth c b L xs) (hd : decode code pc = .ok (.aload_n i, 1)) (hi : lv[(i : Nat)]? = some (some (.ref x))) (k : LQ p e s m below meth c G b pc' lv (.ref x :: st) ws ck cs) (hp : pc + 1 = pc' := by rfl) : LQ p e s m below meth c G b pc lv st ws ck cs := by
  intro H locs ls hP hD hS hl
  subst hp
  exact lv_aload_n C0.1 C0.2.1 hd rfl (hl.get hi) (k H locs ls hP hD hS hl)
theorem q_iload_n {i : Fin 4} {x : Int32} (C0 : lw_At p s m meth c b L xs) (hd : decode code pc = .ok (.iload_n i, 1)) (hi : lv[(i : Nat)]? = some (some (.int x))) (k : LQ p e s m below meth c G b pc' lv (.int x :: st) ws ck cs) (hp : pc + 1 = pc' := by rfl) : LQ p e s m below meth c G b pc lv st ws ck cs := by
  intro H locs ls hP hD hS hl
  subst hp
  exact lv_iload_n C0.1 C0.2.1 hd rfl (hl.get hi) (k H locs ls hP hD hS hl)
theorem q_iconst {n : Int} {v : Int32} (C0 : lw_At p s m meth c b L xs) (hd : decode code pc = .ok (.iconst n, 1)) (hv : Int32.ofInt n = v) (k : LQ p e s m below meth c G b pc' lv (.int v :: st) ws ck cs) (hp : pc + 1 = pc' := by rfl) : LQ p e s m below meth c G b pc lv st ws ck cs := by
  intro H locs ls hP hD hS hl
  subst hp
  exact lv_iconst C0.1 C0.2.1 hd hv (k H locs ls hP hD hS hl)
theorem q_bipush {n : Int} {v : Int32} (C0 : lw_At p s m meth c b L xs) (hd : decode code pc = .ok (.bipush n, 2)) (hv : (Int8.ofInt n).toInt32 = v) (k : LQ p e s m below meth c G b pc' lv (.int v :: st) ws ck cs) (hp : pc + 2 = pc' := by rfl) : LQ p e s m below meth c G b pc lv st ws ck cs := by
  intro H locs ls hP hD hS hl
  subst hp
  exact lv_bipush C0.1 C0.2.1 hd hv (k H locs ls hP hD hS hl)
theorem q_iadd {x y v : Int32} (C0 : lw_At p s m meth c b L xs) (hd : decode code pc = .ok (.iadd, 1)) (hv : x + y = v) (k : LQ p e s m below meth c G b pc' lv (.int v :: st) ws ck cs) (hp : pc + 1 = pc' := by rfl) : LQ p e s m below meth c G b pc lv (.int y :: .int x :: st) ws ck cs := by
  intro H locs ls hP hD hS hl
  subst hp
  subst hv
  exact lv_iadd C0.1 C0.2.1 hd (k H locs ls hP hD hS hl)
theorem q_isub {x y v : Int32} (C0 : lw_At p s m meth c b L xs) (hd : decode code pc = .ok (.isub, 1)) (hv : x - y = v) (k : LQ p e s m below meth c G b pc' lv (.int v :: st) ws ck cs) (hp : pc + 1 = pc' := by rfl) : LQ p e s m below meth c G b pc lv (.int y :: .int x :: st) ws ck cs := by
  intro H locs ls hP hD hS hl
  subst hp
  subst hv
  exact lv_isub C0.1 C0.2.1 hd (k H locs ls hP hD hS hl)
theorem q_iand {x y v : Int32} (C0 : lw_At p s m meth c b L xs) (hd : decode code pc = .ok (.iand, 1)) (hv : x &&& y = v) (k : LQ p e s m below meth c G b pc' lv (.int v :: st) ws ck cs) (hp : pc + 1 = pc' := by rfl) : LQ p e s m below meth c G b pc lv (.int y :: .int x :: st) ws ck cs := by
  intro H locs ls hP hD hS hl
  subst hp
  subst hv
  exact lv_iand C0.1 C0.2.1 hd (k H locs ls hP hD hS hl)
theorem q_sld {i : Nat} (C0 : lw_At p s m meth c b L xs) (hd : decode code pc = .ok (.iaload, 1)) (hi : i < L) (hL : L ≤ 2048) (k : LQ p e s m below meth c G b pc' lv (.int (xs i) :: st) ws ck cs) (hp : pc + 1 = pc' := by rfl) : LQ p e s m below meth c G b pc lv (.int (nI i) :: .ref b :: st) ws ck cs := by
  intro H locs ls hP hD hS hl
  subst hp
  have hin : vp_in (nI i) L := by
    intro q
    rcases q with q | q
    · rw [iLt, i0, nI_e (by omega)] at q; omega
    · have : (nI i).toNatClampNeg = i := by
        show (nI i).toInt.toNat = i
        rw [nI_e (by omega)]; omega
      omega
  have en : (nI i).toNatClampNeg = i := by
    show (nI i).toInt.toNat = i
    rw [nI_e (by omega)]; omega
  refine va_sld C0.1 C0.2.1 C0.2.2.2.2.2.2.1 C0.2.2.2.2.2.2.2.1 (Nat.not_le.mpr C0.2.2.2.2.2.2.2.1) hS hin hd ?_
  rw [en]
  exact k H locs ls hP hD hS hl
theorem q_slen (C0 : lw_At p s m meth c b L xs) (hd : decode code pc = .ok (.arraylength, 1)) (k : LQ p e s m below meth c G b pc' lv (.int (nI L) :: st) ws ck cs) (hp : pc + 1 = pc' := by rfl) : LQ p e s m below meth c G b pc lv (.ref b :: st) ws ck cs := by
  intro H locs ls hP hD hS hl
  subst hp
  exact va_slen C0.1 C0.2.1 C0.2.2.2.2.2.2.1 C0.2.2.2.2.2.2.2.1 (Nat.not_le.mpr C0.2.2.2.2.2.2.2.1) hS hd (k H locs ls hP hD hS hl)
theorem q_istore_n {i : Fin 4} {x : Int32} (C0 : lw_At p s m meth c b L xs) (hd : decode code pc = .ok (.istore_n i, 1)) (hok : lvok lv i = true) (k : LQ p e s m below meth c G b pc' (lv.set (i : Nat) (some (.int x))) st ws ck cs) (hp : pc + 1 = pc' := by rfl) : LQ p e s m below meth c G b pc lv (.int x :: st) ws ck cs := by
  intro H locs ls hP hD hS hl
  subst hp
  exact lv_istore_n C0.1 C0.2.1 hd rfl hl.to i.isLt rfl (fun ls' hl' => k H locs ls' hP hD hS (lhas.set1 hok hl'))
theorem q_astore_n {i : Fin 4} {x : Nat} (C0 : lw_At p s m meth c b L xs) (hd : decode code pc = .ok (.astore_n i, 1)) (hok : lvok lv i = true) (k : LQ p e s m below meth c G b pc' (lv.set (i : Nat) (some (.ref x))) st ws ck cs) (hp : pc + 1 = pc' := by rfl) : LQ p e s m below meth c G b pc lv (.ref x :: st) ws ck cs := by
  intro H locs ls hP hD hS hl
  subst hp
  exact lv_astore_n C0.1 C0.2.1 hd rfl hl.to i.isLt rfl (fun ls' hl' => k H locs ls' hP hD hS (lhas.set1 hok hl'))
theorem q_iinc {i : Nat} {n : Int} {x v : Int32} (C0 : lw_At p s m meth c b L xs) (hd : decode code pc = .ok (.iinc i n, 3)) (hi : lv[i]? = some (some (.int x))) (hv : x + Int32.ofInt n = v) (hn : i < 4) (hok : lvok lv i = true) (k : LQ p e s m below meth c G b pc' (lv.set i (some (.int v))) st ws ck cs) (hp : pc + 3 = pc' := by rfl) : LQ p e s m below meth c G b pc lv st ws ck cs := by
  intro H locs ls hP hD hS hl
  subst hp
  obtain ⟨z, hz⟩ := List.getElem?_of_mem ((lvL_mem lv 0 (i, .int x)).mpr ⟨i, by simp, hi⟩)
  exact lv_iinc C0.1 C0.2.1 hd hl.to hz hv hn rfl (fun ls' hl' => k H locs ls' hP hD hS (lhas.set1 hok hl'))
theorem q_dup {v : Value} (C0 : lw_At p s m meth c b L xs) (hd : decode code pc = .ok (.dup, 1)) (hv : v.category = 1) (k : LQ p e s m below meth c G b pc' lv (v :: v :: st) ws ck cs) (hp : pc + 1 = pc' := by rfl) : LQ p e s m below meth c G b pc lv (v :: st) ws ck cs := by
  intro H locs ls hP hD hS hl
  subst hp
  exact lv_dup C0.1 C0.2.1 hd hv (k H locs ls hP hD hS hl)
theorem q_goto {off : Int} {tgt : Nat} (C0 : lw_At p s m meth c b L xs) (hd : decode code pc = .ok (.goto off, 3)) (ht : (pc : Int) + off = (tgt : Int)) (k : LQ p e s m below meth c G b tgt lv st ws ck cs) : LQ p e s m below meth c G b pc lv st ws ck cs := by
  intro H locs ls hP hD hS hl
  exact lv_goto C0.1 C0.2.1 hd ht (k H locs ls hP hD hS hl)
theorem q_icmp_gt {x y : Int32} {off : Int} {tgt : Nat} (C0 : lw_At p s m meth c b L xs) (hd : decode code pc = .ok (.if_icmp .gt off, 3)) (ht : (pc : Int) + off = (tgt : Int)) (kt : y < x → LQ p e s m below meth c G b tgt lv st ws ck cs) (kf : ¬ (y < x) → LQ p e s m below meth c G b pc' lv st ws ck cs) (hp : pc + 3 = pc' := by rfl) : LQ p e s m below meth c G b pc lv (.int y :: .int x :: st) ws ck cs := by
  intro H locs ls hP hD hS hl
  subst hp
  exact lv_icmp_gt C0.1 C0.2.1 hd ht (fun h => kt h H locs ls hP hD hS hl) (fun h => kf h H locs ls hP hD hS hl)
theorem q_same {x : Int32} {off : Int} {tgt : Nat} (C0 : lw_At p s m meth c b L xs) (hd : decode code pc = .ok (.if_icmp .eq off, 3)) (ht : (pc : Int) + off = (tgt : Int)) (kt : LQ p e s m below meth c G b tgt lv st ws ck cs) : LQ p e s m below meth c G b pc lv (.int x :: .int x :: st) ws ck cs := by
  intro H locs ls hP hD hS hl
  exact lv_icmp_eq C0.1 C0.2.1 hd ht (fun _ => kt H locs ls hP hD hS hl) (fun h => absurd rfl h)
theorem q_sameL {x : Int64} {off : Int} {tgt : Nat} (C0 : lw_At p s m meth c b L xs) (hd1 : decode code pc = .ok (.lcmp, 1)) (hd : decode code (pc + 1) = .ok (.ifCond .eq off, 3)) (ht : ((pc + 1 : Nat) : Int) + off = (tgt : Int)) (kt : LQ p e s m below meth c G b tgt lv st ws ck cs) : LQ p e s m below meth c G b pc lv (.long x :: .long x :: st) ws ck cs := by
  intro H locs ls hP hD hS hl
  have e0 : lg_cmp x x = 0 := by
    unfold lg_cmp
    rw [if_neg (by rw [gt_iff_lt, jLt]; omega), if_pos rfl]
  refine W.lcmp C0.1 C0.2.1 hd1 ?_
  rw [e0]
  exact lv_if_eq C0.1 C0.2.1 hd ht (fun _ => kt H locs ls hP hD hS hl) (fun h => absurd rfl h)
theorem q_tswOut {dflt lo hi : Int} {offs : Array Int} {len : Nat} {x : Int32} {tgt : Nat} (C0 : lw_At p s m meth c b L xs) (hd : decode code pc = .ok (.tableswitch dflt lo hi offs, len)) (h : x.toInt < lo ∨ hi < x.toInt) (ht : (pc : Int) + dflt = (tgt : Int)) (k : LQ p e s m below meth c G b tgt lv st ws ck cs) : LQ p e s m below meth c G b pc lv (.int x :: st) ws ck cs := by
  intro H locs ls hP hD hS hl
  exact lv_tableOut C0.1 C0.2.1 hd h ht (k H locs ls hP hD hS hl)
theorem q_tswIn {dflt lo hi : Int} {offs : Array Int} {len : Nat} {x : Int32} {off : Int} {tgt : Nat} (C0 : lw_At p s m meth c b L xs) (hd : decode code pc = .ok (.tableswitch dflt lo hi offs, len)) (h1 : ¬ x.toInt < lo) (h2 : ¬ hi < x.toInt) (ho : offs[(x.toInt - lo).toNat]? = some off) (ht : (pc : Int) + off = (tgt : Int)) (k : LQ p e s m below meth c G b tgt lv st ws ck cs) : LQ p e s m below meth c G b pc lv (.int x :: st) ws ck cs := by
  intro H locs ls hP hD hS hl
  exact lv_tableIn C0.1 C0.2.1 hd h1 h2 ho ht (k H locs ls hP hD hS hl)
theorem q_new {index ci N : Nat} {C : String} {T : u_T} {ty : Nat → FieldType} {fs : List Value} (C0 : lw_At p s m meth c b L xs) (hK : gKK G s) (hc : ClI ci C T N ty) (hd : decode code pc = .ok (.new index, 3)) (hl : Cond.classLink R_law index C ∈ TT) (hi : Cond.instantiable C N ∈ TT) (hn : Cond.initialized C ∈ TT) (hfs : ∀ j, j < N → defaultValue (ty j) = vp_V fs j) (hck : ck + 1 ≤ 600000 ∧ cs + N ≤ 7302250) (kk : ∀ q, LQ p e s m below meth c G b pc' lv (.ref q :: st) (ws ++ [(q, .inr (ci, fs))]) (ck + 1) (cs + N)) (hp : pc + 3 = pc' := by rfl) : LQ p e s m below meth c G b pc lv st ws ck cs := by
  intro H locs ls hP hD hS hlv
  subst hp
  have hts : ∀ w ∈ TT, w.before #[Value.ref b] s = true := fun w hw => C0.2.2.2.2.2.1 w (List.mem_filter.mp hw).1
  exact va_new C0.1 C0.2.1 hts hc.2.1 ty hc.2.2.1 C0.2.2.2.2.1 (hts _ hl) (hts _ hi) (hts _ hn) hK.1 hP hD hS (fun _ h => h) hc.1 hfs hck.1 hck.2 hd (fun q H1 hP hD hS => kk q H1 locs ls hP hD hS hlv)
theorem lq_free {H : Heap} {locs : List Loc} (hD : va_D (lwS s) ws) (hS : va_S (lwS s) s.heap H locs) : ∀ q, va_A ws H.size q → lwS s q := by
  intro q h
  rcases h with ⟨k, e, h⟩ | h
  · exact hD.2 k (q, e) h
  · exact Nat.le_trans hS.1 h
theorem q_init {ν : MI} {index n a d' mc' ms' : Nat} {Q' : Option Value → va_W → Prop} {As rest : List Value} (C0 : lw_At p s m meth c b L xs) (hK : gKK G s) (hd : decode code pc = .ok (.invokespecial index, 3)) (hm : Cond.methodLink R_law index ν.1 ∈ TT) (hi : MoI ν n) (hv : MoC ν) (hr : ν.2.2.2 = none) (hC : Con G ν d' mc' ms' (.ref a :: As) ws Q') (hdd : d' ≤ 100) (hn : As.length = n) (hst : st = As.reverse ++ .ref a :: rest) (hrest : (rest.map fun v => v.category).sum ≤ 8) (hL : ν.2.2.1 ≤ 45) (hck : ck + mc' ≤ 600000 ∧ cs + ms' ≤ 7302250)
    (kk : ∀ (v : Option Value) (ws' : va_W), Q' v ws' → LQ p e s m below meth c G b pc' lv (v.toList ++ rest) ws' (ck + mc') (cs + ms')) (hp : pc + 3 = pc' := by rfl) : LQ p e s m below meth c G b pc lv st ws ck cs := by
  intro H locs ls hP hD hS hl
  subst hp
  subst hst
  have hFc := lq_free hD hS
  have hts : ∀ w ∈ TT, w.before #[Value.ref b] s = true := fun w hw => C0.2.2.2.2.2.1 w (List.mem_filter.mp hw).1
  have hpre : PreS s H (gPc G (.ref a :: As) ws H.size) (.ref a :: As) := ⟨gPc.blind, fun U hU hW => ⟨rfl, by rw [hU], by rw [hU]; exact hP, hK.warm hW, hD.weaken (fun _ _ _ _ => trivial)⟩⟩
  have hG : GoodIn TT (Cond.code ν.1 ν.2.1 ν.2.2.1 ν.2.2.2 :: TT) := goodTT (fun w h => by rcases List.mem_cons.mp h with rfl | h; exact hi.1; exact h)
  have hR : (gRm d' mc' ms').frames + 1 ≤ room_1.frames ∧ 8 + (ν.2.2.1 + 11) + (gRm d' mc' ms').locals ≤ room_1.locals := ⟨by show d' + 1 ≤ 2048; omega, by show 8 + (ν.2.2.1 + 11) + 64 * d' ≤ 84000; omega⟩
  have hC := hC H.size
  rw [hr] at hC hG
  exact g_call (va_runI (As := As) (rest := rest) ⟨C0.1, C0.2.1, C0.2.2.2.1, C0.2.2.2.2.1, hts⟩ hC (cwI n hts hG rfl rfl rfl (hts _ hi.2.1) (hts _ hm) (hts _ hv.1) hv.2 ⟨hi.2.2.1.1, hi.2.2.1.2, hi.2.2.2⟩ hR) hpre rfl hn hl.1 rfl (lv_room hrest) hd hck) hS (fun q _ h => hFc q h) hFc (fun v ws' H1 locs1 hq hP hD hS => kk v ws' hq H1 locs1 ls hP (hD.weaken (fun _ q _ h => hFc q.1 h)) hS hl)
theorem q_callV {ν : MI} {index n a q ci N d' : Nat} {T : u_T} {ty : Nat → FieldType} {fs : List Value} {Q' : Option Value → va_W → Prop} {As rest : List Value} (C0 : lw_At p s m meth c b L xs) (hK : gKK G s) (hd : decode code pc = .ok (.invokevirtual index, 3)) (hm : Cond.methodLink R_law index ν.1 ∈ TT) (hi : MoI ν n) (hv : MoV ν) (hcl : ClI ci ν.1.cls T N ty) (hC : Con G ν d' 0 0 (.ref a :: As) ws Q') (hdd : d' ≤ 100) (hn : As.length = n) (hst : st = As.reverse ++ .ref a :: rest) (hrest : (rest.map fun v => v.category).sum ≤ 8) (hw : ws[q]? = some (a, .inr (ci, fs))) (hL : ν.2.2.1 ≤ 45) (hck : ck + 0 ≤ 600000 ∧ cs + 0 ≤ 7302250)
    (kk : ∀ (v : Option Value) (ws' : va_W), Q' v ws' → LQ p e s m below meth c G b pc' lv (v.toList ++ rest) ws' (ck + 0) (cs + 0)) (hp : pc + 3 = pc' := by rfl) : LQ p e s m below meth c G b pc lv st ws ck cs := by
  intro H locs ls hP hD hS hl
  subst hp
  subst hst
  have hFc := lq_free hD hS
  have hts : ∀ w ∈ TT, w.before #[Value.ref b] s = true := fun w hw => C0.2.2.2.2.2.1 w (List.mem_filter.mp hw).1
  have hpre : PreV s H ν.1.cls a (gPc G (.ref a :: As) ws H.size) As := ⟨gPc.blind, va_recv hK.1 hP hcl.1 hw, fun U hU hW => ⟨rfl, by rw [hU], by rw [hU]; exact hP, hK.warm hW, hD.weaken (fun _ _ _ _ => trivial)⟩⟩
  have hG : GoodIn TT (Cond.code ν.1 ν.2.1 ν.2.2.1 ν.2.2.2 :: TT) := goodTT (fun w h => by rcases List.mem_cons.mp h with rfl | h; exact hi.1; exact h)
  have hR : (gRm d' 0 0).frames + 1 ≤ room_1.frames ∧ 8 + (ν.2.2.1 + 11) + (gRm d' 0 0).locals ≤ room_1.locals := ⟨by show d' + 1 ≤ 2048; omega, by show 8 + (ν.2.2.1 + 11) + 64 * d' ≤ 84000; omega⟩
  refine g_call (va_runV (As := As) (rest := rest) ⟨C0.1, C0.2.1, C0.2.2.2.1, C0.2.2.2.2.1, hts⟩ (hC H.size) (cwV n hts (goodTT (fun w h => ?_)) rfl rfl rfl ⟨rfl, hi.2.2.1.1, hi.2.2.1.2, hi.2.2.2⟩ hR) hpre rfl hn hl.1 rfl (lv_room hrest) hd hck) hS (fun q _ h => hFc q h) hFc (fun v ws' H1 locs1 hq hP hD hS => kk v ws' hq H1 locs1 ls hP (hD.weaken (fun _ q _ h => hFc q.1 h)) hS hl)
  rcases List.mem_append.mp h with h | h
  · simp only [List.mem_cons, List.not_mem_nil, or_false] at h
    rcases h with rfl | rfl | rfl | rfl
    · exact hm
    · exact hv.1
    · exact hv.2
    · exact hi.2.1
  · exact (hG w h).1
theorem q_wide {ck' cs' : Nat} (h1 : ck ≤ ck') (h2 : cs ≤ cs') (k : LQ p e s m below meth c G b pc lv st ws ck' cs') : LQ p e s m below meth c G b pc lv st ws ck cs := by
  intro H locs ls hP hD hS hl
  exact W.widen h1 h2 (k H locs ls hP hD hS hl)
/-- the law's end -/
theorem q_end (C0 : lw_At p s m meth c b L xs) (hd : decode code pc = .ok (.iconst 1, 1)) (hd2 : decode code (pc + 1) = .ok (.ireturn, 1)) : LQ p e s m below meth c G b pc lv [] ws 600000 7302250 := by
  intro H locs ls hP hD hS hl
  refine lv_iconst (v := 1) C0.1 C0.2.1 hd (by decide) ?_
  refine va_forget (fun q hq => hS.2.2 q hq) ?_
  exact lw_ret C0.1 C0.2.1 C0.2.2.1 C0.2.2.2.2.2.2.2.2.1 hd2
end LAWQ
