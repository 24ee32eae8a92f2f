theorem goodTT {l : List Cond} (h : ∀ w ∈ l, w ∈ TT) : GoodIn TT l := fun w hw => ⟨h w hw, good_of_word (List.mem_filter.mp (h w hw)).2⟩
theorem gKK.warm {G : GT} {s U : State} (hW : s.WarmedH U.vm) (h : gKK G s) : gKK G U := by
  refine ⟨va_K.moved hW.alike h.1, fun w hw => ?_⟩
  have h1 := h.2 w hw
  have h2 := (List.mem_filter.mp hw).2
  cases w with
  | fieldLinkNest a i b n d z => exact va_Nw.warmF hW h1
  | methodLinkNest a i y z => exact va_Nw.warmM hW h1
  | arrayOver t => cases t with
    | array t => exact over_moved hW.alike h1
    | object C => exact va_AO.moved hW.alike h1
    | _ => simp [isNest] at h2
  | _ => simp [isNest] at h2
theorem gPc.blind {G : GT} {av : List Value} {ws : va_W} {sz : Nat} : FrameBlind (gPc G av ws sz) := fun a U g mk q => ⟨q.1, q.2.1, q.2.2.1, ⟨va_K.moved (u := U) (U := U.calling g mk a) (Vm.Alike.refl U.vm) q.2.2.2.1.1, fun w hw => by
  have h2 := (List.mem_filter.mp hw).2
  have h1 := q.2.2.2.1.2 w hw
  cases w with
  | fieldLinkNest a i b n d z => exact va_Nw.same (u := U) rfl rfl h1
  | methodLinkNest a i y z => exact va_Nw.same (u := U) rfl rfl h1
  | arrayOver t => cases t with
    | array t => exact over_moved (u := U) (E := U.calling g mk a) (Vm.Alike.refl U.vm) h1
    | object C => exact va_AO.moved (u := U) (U := U.calling g mk a) (Vm.Alike.refl U.vm) h1
    | _ => simp [isNest] at h2
  | _ => simp [isNest] at h2⟩, q.2.2.2.2⟩
section GCALL
variable {p : Program} {l : Launch} {e : Env} {R : Room} {s : State} {m : MethodId} {args : Array Value} {below : List Frame} {meth : Method} {c : Code} {H : Heap} {locs : List Loc} {cells slots : Nat} {Q : State → Prop}
variable {pc : Nat} {ls : Array Slot} {rest st0 : List Value} {a : Array Value} {A0 A1 : Nat → Prop} {H0 : Heap} {mc ms : Nat} {free : Addr → Prop}
theorem g_call {G : GT} {Q' : Option Value → va_W → Prop} (hr : va_Run p l e R s m args below meth c H locs cells slots mc ms (F0 m pc ls st0) rest (gQ G A1 Q' a) free) (hS : va_S A0 H0 H locs) (hA : ∀ q, q < H.size → A1 q → A0 q) (hf : ∀ q, free q → A0 q)
    (kk : ∀ (v : Option Value) (ws' : va_W) (H1 : Heap) (locs1 : List Loc), Q' v ws' → va_P G.2.1 vwCl ws' H1 → va_D A1 ws' → va_S A0 H0 H1 locs1 → W p l e R s m args below meth c H1 locs1 (cells + mc) (slots + ms) Q (F0 m (pc + 3) ls (v.toList ++ rest))) : W p l e R s m args below meth c H locs cells slots Q (F0 m pc ls st0) := by
  intro T hT X
  obtain ⟨v, st₀, t, T', L, h0, X', hL, e1, e2, ⟨⟨v', ws', hv, hq, hp, hd⟩, hz, hk⟩, st⟩ := hr T hT X
  cases hv
  rw [h0] at hz hk
  obtain ⟨t2, a1, b1⟩ := kk v ws' T'.heap (locs ++ L) hq (by rw [e1]; exact hp) hd
    ⟨Nat.le_trans hS.1 (by rw [e1]; exact hz), fun q h1 h2 => by rw [e1, hk q (Nat.lt_of_lt_of_le h1 hS.1) (fun z => h2 (hA q (Nat.lt_of_lt_of_le h1 hS.1) z))]; exact hS.2.1 q h1 h2, fun q hq => by
      rcases List.mem_append.mp hq with h | h
      · exact hS.2.2 q h
      · exact hf _ (hL q h)⟩ T' rfl X'
  exact ⟨t2, st t2 a1, b1⟩
end GCALL
section GCON
variable {G : GT} {μ ν : MI} {d d' mc ms mc' ms' : Nat} {Q Q' : Option Value → va_W → Prop} {pc pc' : Nat} {lv : List (Option Value)} {st rest As : List Value} {ws : va_W} {ck cs : Nat}
theorem g_free {A : Nat → Prop} {s : State} {H : Heap} {locs : List Loc} (hD : va_D A ws) (hS : va_S A s.heap H locs) (hA : ∀ q, s.heap.size ≤ q → A q) : ∀ q, va_A ws H.size q → A q := by
  intro q h
  rcases h with ⟨k, e, h⟩ | h
  · exact hD.2 k (q, e) h
  · exact hA q (Nat.le_trans hS.1 h)
theorem k_callV {idx n b q ci N : Nat} {T : u_T} {ty : Nat → FieldType} {fs : List Value} (hd : decode μ.2.1 pc = .ok (.invokevirtual idx, 3)) (hm : ML μ.1.cls idx ν.1) (hi : MoI ν n) (hv : MoV ν) (hcl : ClI ci ν.1.cls T N ty) (hC : Con G ν d' mc' ms' (.ref b :: As) ws Q') (hdd : d' < d) (hn : As.length = n) (hst : st = As.reverse ++ .ref b :: rest) (hrest : (rest.map fun v => v.category).sum ≤ 8) (hw : ws[q]? = some (b, .inr (ci, fs))) (hL : ν.2.2.1 ≤ 45) (hck : ck + mc' ≤ mc ∧ cs + ms' ≤ ms)
    (kk : ∀ (v : Option Value) (ws' : va_W), Q' v ws' → Ok G μ d mc ms Q pc' lv (v.toList ++ rest) ws' (ck + mc') (cs + ms')) (hp : pc + 3 = pc' := by rfl) : Ok G μ d mc ms Q pc lv st ws ck cs := by
  intro p e s m args below meth c A H locs ls F K hA hP hD hS hl
  subst hp
  subst hst
  have hFc := g_free hD hS hA
  have hts := F.2.2.2.2.2.1
  have hpre : PreV s H ν.1.cls b (gPc G (.ref b :: As) ws H.size) As := ⟨gPc.blind, va_recv K.1 hP hcl.1 hw, fun U hU hW => ⟨rfl, by rw [hU], by rw [hU]; exact hP, K.warm hW, hD.weaken (fun _ _ _ _ => trivial)⟩⟩
  have hG : GoodIn TT (Cond.code ν.1 ν.2.1 ν.2.2.1 ν.2.2.2 :: TT) := goodTT (fun w h => by rcases List.mem_cons.mp h with rfl | h; exact hi.1; exact h)
  have hR : (gRm d' mc' ms').frames + 1 ≤ (gRm d mc ms).frames ∧ 8 + (ν.2.2.1 + 11) + (gRm d' mc' ms').locals ≤ (gRm d mc ms).locals := ⟨hdd, by show 8 + (ν.2.2.1 + 11) + 64 * d' ≤ 64 * d; omega⟩
  rcases hm with hm | ⟨host, hm⟩
  · refine g_call (va_runV (As := As) (rest := rest) ⟨F.1, F.2.1, F.2.2.2.1, F.2.2.2.2.1, hts⟩ (hC H.size) (cwV n hts (goodTT (fun w h => ?_)) rfl rfl rfl ⟨rfl, hi.2.2.1.1, hi.2.2.1.2, hi.2.2.2⟩ hR) hpre rfl hn hl.1 rfl (lv_room hrest) hd hck) hS (fun q _ h => hFc q h) hFc (fun v ws' H1 locs1 hq hP hD hS => kk v ws' hq p e s m args below meth c A H1 locs1 ls F K hA hP (hD.weaken (fun _ q _ h => hFc q.1 h)) hS hl)
    rcases List.mem_append.mp h with h | h
    · simp only [List.mem_cons, List.not_mem_nil, or_false] at h
      rcases h with rfl | rfl | rfl | rfl
      · exact hm
      · exact hv.1
      · exact hv.2
      · exact hi.2.1
    · exact (hG w h).1
  · refine g_call (va_runVN (C := ν.1.cls) (As := As) (rest := rest) ⟨F.1, F.2.1, F.2.2.2.1, F.2.2.2.2.1, hts⟩ (hC H.size) ⟨va_cnB n hts hG rfl rfl rfl (K.2 _ hm) (hts _ hi.2.1) ⟨hi.2.2.1.1, hi.2.2.1.2, hi.2.2.2⟩ hR, hts _ hv.1, hts _ hv.2⟩ hpre rfl hn hl.1 rfl (lv_room hrest) hd hck) hS (fun q _ h => hFc q h) hFc (fun v ws' H1 locs1 hq hP hD hS => kk v ws' hq p e s m args below meth c A H1 locs1 ls F K hA hP (hD.weaken (fun _ q _ h => hFc q.1 h)) hS hl)
theorem k_callI {idx n b : Nat} (hd : decode μ.2.1 pc = .ok (.invokespecial idx, 3)) (hm : ML μ.1.cls idx ν.1) (hi : MoI ν n) (hv : MoC ν) (hr : ν.2.2.2 = none) (hC : Con G ν d' mc' ms' (.ref b :: As) ws Q') (hdd : d' < d) (hn : As.length = n) (hst : st = As.reverse ++ .ref b :: rest) (hrest : (rest.map fun v => v.category).sum ≤ 8) (hL : ν.2.2.1 ≤ 45) (hck : ck + mc' ≤ mc ∧ cs + ms' ≤ ms)
    (kk : ∀ (v : Option Value) (ws' : va_W), Q' v ws' → Ok G μ d mc ms Q pc' lv (v.toList ++ rest) ws' (ck + mc') (cs + ms')) (hp : pc + 3 = pc' := by rfl) : Ok G μ d mc ms Q pc lv st ws ck cs := by
  intro p e s m args below meth c A H locs ls F K hA hP hD hS hl
  subst hp
  subst hst
  have hFc := g_free hD hS hA
  have hts := F.2.2.2.2.2.1
  have hpre : PreS s H (gPc G (.ref b :: As) ws H.size) (.ref b :: As) := ⟨gPc.blind, fun U hU hW => ⟨rfl, by rw [hU], by rw [hU]; exact hP, K.warm hW, hD.weaken (fun _ _ _ _ => trivial)⟩⟩
  have hG : GoodIn TT (Cond.code ν.1 ν.2.1 ν.2.2.1 ν.2.2.2 :: TT) := goodTT (fun w h => by rcases List.mem_cons.mp h with rfl | h; exact hi.1; exact h)
  have hR : (gRm d' mc' ms').frames + 1 ≤ (gRm d mc ms).frames ∧ 8 + (ν.2.2.1 + 11) + (gRm d' mc' ms').locals ≤ (gRm d mc ms).locals := ⟨hdd, by show 8 + (ν.2.2.1 + 11) + 64 * d' ≤ 64 * d; omega⟩
  have hC := hC H.size
  rw [hr] at hC hG
  rcases hm with hm | ⟨host, hm⟩
  · exact g_call (va_runI (As := As) (rest := rest) ⟨F.1, F.2.1, F.2.2.2.1, F.2.2.2.2.1, hts⟩ hC (cwI n hts hG rfl rfl rfl (hts _ hi.2.1) (hts _ hm) (hts _ hv.1) hv.2 ⟨hi.2.2.1.1, hi.2.2.1.2, hi.2.2.2⟩ hR) hpre rfl hn hl.1 rfl (lv_room hrest) hd hck) hS (fun q _ h => hFc q h) hFc (fun v ws' H1 locs1 hq hP hD hS => kk v ws' hq p e s m args below meth c A H1 locs1 ls F K hA hP (hD.weaken (fun _ q _ h => hFc q.1 h)) hS hl)
  · exact g_call (va_runIN (As := As) (rest := rest) ⟨F.1, F.2.1, F.2.2.2.1, F.2.2.2.2.1, hts⟩ hC ⟨va_cnB n hts hG rfl rfl rfl (K.2 _ hm) (hts _ hi.2.1) ⟨hi.2.2.1.1, hi.2.2.1.2, hi.2.2.2⟩ hR, hv.2, hts _ hv.1⟩ hpre rfl hn hl.1 rfl (lv_room hrest) hd hck) hS (fun q _ h => hFc q h) hFc (fun v ws' H1 locs1 hq hP hD hS => kk v ws' hq p e s m args below meth c A H1 locs1 ls F K hA hP (hD.weaken (fun _ q _ h => hFc q.1 h)) hS hl)
theorem k_callS {idx n : Nat} (hd : decode μ.2.1 pc = .ok (.invokestatic idx, 3)) (hm : ML μ.1.cls idx ν.1) (hi : MoI ν n) (hv : MoS ν) (hC : Con G ν d' mc' ms' As ws Q') (hdd : d' < d) (hn : As.length = n) (hst : st = As.reverse ++ rest) (hrest : (rest.map fun v => v.category).sum ≤ 8) (hL : ν.2.2.1 ≤ 45) (hck : ck + mc' ≤ mc ∧ cs + ms' ≤ ms)
    (kk : ∀ (v : Option Value) (ws' : va_W), Q' v ws' → Ok G μ d mc ms Q pc' lv (v.toList ++ rest) ws' (ck + mc') (cs + ms')) (hp : pc + 3 = pc' := by rfl) : Ok G μ d mc ms Q pc lv st ws ck cs := by
  intro p e s m args below meth c A H locs ls F K hA hP hD hS hl
  subst hp
  subst hst
  have hFc := g_free hD hS hA
  have hts := F.2.2.2.2.2.1
  have hpre : PreS s H (gPc G As ws H.size) As := ⟨gPc.blind, fun U hU hW => ⟨rfl, by rw [hU], by rw [hU]; exact hP, K.warm hW, hD.weaken (fun _ _ _ _ => trivial)⟩⟩
  have hG : GoodIn TT (Cond.code ν.1 ν.2.1 ν.2.2.1 ν.2.2.2 :: TT) := goodTT (fun w h => by rcases List.mem_cons.mp h with rfl | h; exact hi.1; exact h)
  have hR : (gRm d' mc' ms').frames + 1 ≤ (gRm d mc ms).frames ∧ 8 + (ν.2.2.1 + 11) + (gRm d' mc' ms').locals ≤ (gRm d mc ms).locals := ⟨hdd, by show 8 + (ν.2.2.1 + 11) + 64 * d' ≤ 64 * d; omega⟩
  rcases hm with hm | ⟨host, hm⟩
  · refine g_call (va_runS (As := As) (rest := rest) ⟨F.1, F.2.1, F.2.2.2.1, F.2.2.2.2.1, hts⟩ (hC H.size) (va_cwS n hts (goodTT (fun w h => ?_)) rfl rfl rfl ⟨hi.2.2.1.1, hi.2.2.1.2, hi.2.2.2⟩ hR) hpre rfl hn hl.1 rfl (lv_room hrest) hd hck) hS (fun q _ h => hFc q h) hFc (fun v ws' H1 locs1 hq hP hD hS => kk v ws' hq p e s m args below meth c A H1 locs1 ls F K hA hP (hD.weaken (fun _ q _ h => hFc q.1 h)) hS hl)
    rcases List.mem_append.mp h with h | h
    · simp only [List.mem_cons, List.not_mem_nil, or_false] at h
      rcases h with rfl | rfl | rfl
      · exact hm
      · exact hv
      · exact hi.2.1
    · exact (hG w h).1
  · exact g_call (va_runSN (As := As) (rest := rest) ⟨F.1, F.2.1, F.2.2.2.1, F.2.2.2.2.1, hts⟩ (hC H.size) ⟨va_cnB n hts hG rfl rfl rfl (K.2 _ hm) (hts _ hi.2.1) ⟨hi.2.2.1.1, hi.2.2.1.2, hi.2.2.2⟩ hR, hts _ hv, trivial⟩ hpre rfl hn hl.1 rfl (lv_room hrest) hd hck) hS (fun q _ h => hFc q h) hFc (fun v ws' H1 locs1 hq hP hD hS => kk v ws' hq p e s m args below meth c A H1 locs1 ls F K hA hP (hD.weaken (fun _ q _ h => hFc q.1 h)) hS hl)
/-- a method's locals at its entry -/
def lvi (vs : List Value) : List (Option Value) := vs.flatMap fun v => if v.category = 2 then [some v, none] else [some v]
def lvin (n : Nat) (vs : List Value) : List (Option Value) := lvi vs ++ List.replicate (n - (lvi vs).length) none
theorem lvi_args : ∀ (vs : List Value) (r k i : Nat) (v : Value), (lvi vs ++ List.replicate r none)[i]? = some (some v) → (k + i, v) ∈ lv_args k vs
  | [], r, k, i, v, h => by
    simp [lvi, List.getElem?_replicate] at h
  | w :: vs, r, k, i, v, h => by
    unfold lv_args
    by_cases hc : w.category = 2
    · have e : lvi (w :: vs) = some w :: none :: lvi vs := by simp [lvi, hc]
      rw [e] at h
      rw [if_pos hc]
      match i, h with
      | 0, h => simp at h; subst h; exact List.mem_cons_self
      | 1, h => simp at h
      | i + 2, h =>
        have := lvi_args vs r (k + 2) i v (by simpa using h)
        rw [show k + (i + 2) = k + 2 + i by omega]
        exact List.mem_cons_of_mem _ this
    · have e : lvi (w :: vs) = some w :: lvi vs := by simp [lvi, hc]
      rw [e] at h
      rw [if_neg hc]
      match i, h with
      | 0, h => simp at h; subst h; exact List.mem_cons_self
      | i + 1, h =>
        have := lvi_args vs r (k + 1) i v (by simpa using h)
        rw [show k + (i + 1) = k + 1 + i by omega]
        exact List.mem_cons_of_mem _ this
theorem Con.of {av : List Value} (hpn : plainName μ.1.cls = true) (hlen : (lg_sl av).length ≤ μ.2.2.1) (h : Ok G μ d mc ms Q 0 (lvin μ.2.2.1 av) [] ws 0 0) : Con G μ d mc ms av ws Q := by
  intro sz
  refine Met.ofW (cc := μ.2.1) (maxL := μ.2.2.1) (ret := μ.2.2.2) hpn rfl ?_
  intro p e s m args below meth c s₁ B hml hv
  obtain ⟨rfl, hsz, hP, hK, hD0⟩ := hv
  subst hsz
  have hts0 := atoms_spec (ws := Cond.code μ.1 μ.2.1 μ.2.2.1 μ.2.2.2 :: TT) B.pre
  have hl := lv_entry av hlen
  rw [lg_entry_eq]
  exact h p e s m _ below meth c (va_A ws s.heap.size) s.heap [] _ ⟨B.exec, B.bytes, B.returns, hml, findClass_of_methodNamed B.named, fun w hw => hts0 w (List.mem_cons_of_mem _ hw), B.notSynchronized, (name_of_methodNamed B.named B.method).1⟩ hK (fun q hq => Or.inr hq) hP (hD0.self) va_S.rf (lhas.of hl (fun i v hi => by
    have := lvi_args av (μ.2.2.1 - (lvi av).length) 0 i v hi
    simpa using this))
theorem Con.mono {av : List Value} (h : Con G μ d mc ms av ws Q) (hq : ∀ v ws', Q v ws' → Q' v ws') : Con G μ d mc ms av ws Q' := by
  intro sz p e ha hc hk s m args below hf happ hP hT
  obtain ⟨k, o, h1, h2, h3, h4, h5⟩ := h sz p e ha hc hk s m args below hf happ hP hT
  obtain ⟨⟨v, ws', e1, e2, e3⟩, e4⟩ := h4
  exact ⟨k, o, h1, h2, h3, ⟨⟨v, ws', e1, hq v ws' e2, e3⟩, e4⟩, h5⟩
end GCON
