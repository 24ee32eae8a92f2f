/-! new objects and rows. The first block began as a starting text of the printed names (two words of it were wanting there) -/
def va_AOA (t : FieldType) (U : State) : Prop := (Cond.arrayOver (.array t)).before #[] U = true
theorem va_AOA.use {t : FieldType} {A : Array Value} {U : State} (h : va_AOA t U) : (Cond.arrayOver (.array t)).before A U = true := h
theorem va_AOA.of {t : FieldType} {A : Array Value} {U : State} (h : (Cond.arrayOver (.array t)).before A U = true) : va_AOA t U := h
/-! ===== BEGIN new T[n][m]: the outer array a place, the inner ones among the pooled ===== -/
/-- f, but v at every address of l -/
def vr_up {α : Type} (f : Nat → α) (l : List Nat) (v : α) : Nat → α := fun a => if a ∈ l then v else f a
theorem vr_up_in {α : Type} {f : Nat → α} {l : List Nat} {v : α} {a : Nat} (h : a ∈ l) : vr_up f l v a = v := if_pos h
theorem vr_up_ne {α : Type} {f : Nat → α} {l : List Nat} {v : α} {a : Nat} (h : a ∉ l) : vr_up f l v a = f a := if_neg h
theorem vr_rows {L l : List Nat} {f : Nat → va_E} {e : va_E} (h : ∀ a, a ∈ l → a ∉ L) : va_pl L f ++ l.map (fun a => (a, e)) = va_pl (L ++ l) (vr_up f l e) := by
  unfold va_pl
  rw [List.map_append]
  congr 1
  · apply List.map_congr_left
    intro a ha
    rw [vr_up_ne (fun q => h a q ha)]
  · apply List.map_congr_left
    intro a ha
    rw [vr_up_in ha]
theorem vr_lay {X rows : va_W} {x : Nat × va_E} {pl : va_W} {D : va_G} {cl : List vw_C} {H : Heap} (hP : va_P D cl (((X ++ pl) ++ [x]) ++ rows) H) : va_P D cl ((X ++ [x]) ++ (pl ++ rows)) H := by
  rw [List.append_assoc (X ++ pl)] at hP
  have h := va_P.swap hP
  rw [← List.append_assoc X] at h
  have h2 := va_P.swap h
  rw [List.append_assoc (X ++ [x])] at h2
  exact h2
theorem vr_layD {X rows : va_W} {x : Nat × va_E} {pl : va_W} {A : Nat → Prop} (hD : va_D A (((X ++ pl) ++ [x]) ++ rows)) : va_D A ((X ++ [x]) ++ (pl ++ rows)) := by
  rw [List.append_assoc (X ++ pl)] at hD
  have h := va_D.swap hD
  rw [← List.append_assoc X] at h
  have h2 := va_D.swap h
  rw [List.append_assoc (X ++ [x])] at h2
  exact h2
theorem vr_outer (c : ClassId) (N h0 : Nat) : ∀ i : Nat, Jvm.Free.Multi.outerC c N h0 i = arrV c N (fun j => va_rf (if j < i then some (h0 + 1 + j) else none))
  | 0 => by
    show ({ cls := c, slots := Array.replicate N .null, vm := .none } : Cell) = _
    rw [arrV_new]
    refine congrArg (arrV c N) (funext fun j => ?_)
    simp [va_rf]
  | i + 1 => by
    show (Jvm.Free.Multi.outerC c N h0 i).setSlot i (.ref (h0 + 1 + i)) = _
    rw [vr_outer c N h0 i, arrV_store]
    refine congrArg (arrV c N) (funext fun j => ?_)
    by_cases e : j = i
    · subst e
      simp [updV, va_rf]
    · by_cases h : j < i
      · simp [updV, e, h, Nat.lt_succ_of_lt h]
      · simp [updV, e, h, show ¬ j < i + 1 by omega]
section VGM
variable {p : Program} {l : Launch} {e : Env} {R : Room} {s : State} {m : MethodId} {args : Array Value} {below : List Frame} {meth : Method} {c : Code} {H : Heap} {locs : List Loc} {cells slots : Nat} {Q : State → Prop}
variable {cc : ByteArray} {pc : Nat} {ls : Array Slot} {rest : List Value} {D : va_G} {cl : List vw_C} {A : Nat → Prop} {a : Nat} {tys : List (ClassId × FieldType)} {ws : va_W} {H0 : Heap}
theorem va_mna {X : va_W} {L : List Nat} {f : Nat → va_E} {cc : ByteArray} (hexec : p.tables.exec = Jvm.exec) (hb : c.code = cc) {own : String} {index : Nat} {ty : FieldType} {cy : ClassId} (hown : s.vm.findClass own = some m.cls) (hclink : (Cond.classLink own index ("[" ++ (FieldType.array ty).toString)).before args s = true) (hover : va_AOA ty s) (harr : (Cond.arrayClass ty).before args s = true) (hcy : s.vm.findClass (FieldType.array ty).toString = some cy)
    (hK : va_K D cl tys s) (hP : va_P D cl (X ++ va_pl L f) H) (hD : va_D A (X ++ va_pl L f)) (hS : va_S A H0 H locs) (hA : ∀ q, H0.size ≤ q → A q) {n k : Int32} {N' K' : Nat} {z : vp_A} (hn : ¬ n < 0) (hk : ¬ k < 0) (hN : n.toNatClampNeg = N') (hM : k.toNatClampNeg = K')
    (hb1 : N' * 4 ≤ 536870912) (hb2 : K' * componentBytes ty ≤ 536870912) (hb3 : K' ≤ 536870912) (hdf : fits ty (defaultValue ty) = true) (hdd : (defaultValue ty).isDefault = true) (hcells : cells + (1 + N') ≤ R.cells) (hslots : slots + (N' + N' * K') ≤ R.slots) (hz : ∀ c : ClassId, Jvm.Free.Multi.innerC c K' (defaultValue ty) = vp_cell c z) (hdg : decode cc pc = .ok (.multianewarray index 2, 4))
    (kk : ∀ (q : Nat) (r : Nat → Nat) (cA : ClassId) (H1 : Heap), (∀ i j : Nat, i < N' → j < N' → r i = r j → i = j) → (∀ i : Nat, i < N' → r i ∉ L) → va_K D cl (tys ++ [(cA, .array ty)]) s →
      va_P D cl ((X ++ [(q, .inl (cA, N', .inr (.inr (.inr (.inr (fun i => if i < N' then some (r i) else none))))))]) ++ va_pl (L ++ (List.range N').map r) (vr_up f ((List.range N').map r) (.inl (cy, z)))) H1 → va_D A ((X ++ [(q, .inl (cA, N', .inr (.inr (.inr (.inr (fun i => if i < N' then some (r i) else none))))))]) ++ va_pl (L ++ (List.range N').map r) (vr_up f ((List.range N').map r) (.inl (cy, z)))) → va_S A H0 H1 locs →
      W p l e R s m args below meth c H1 locs (cells + 1 + N') (slots + N' + N' * K') Q (F0 m (pc + 4) ls (.ref q :: rest))) : W p l e R s m args below meth c H locs cells slots Q (F0 m pc ls (.int k :: .int n :: rest)) := by
  subst hN
  subst hM
  intro T hT Xs
  obtain ⟨vm₁, cA, comp, -, fA, fC, hO, -, X', step⟩ := Xs.multianewarray2F hexec hown hclink (va_AOA.use hover) harr (g := F0 m pc ls (.int k :: .int n :: rest)) rfl (by rw [hb]; exact hdg) rfl hn hk hb1 hb2 hb3 hdf hdd hcells hslots
  have ec : some cy = some comp := hcy.symm.trans fC
  cases ec
  generalize hF : Jvm.Free.Multi.fill (T.setVm vm₁) cA cy n.toNatClampNeg k.toNatClampNeg (defaultValue ty) n.toNatClampNeg = F at X' step
  have hTh : (T.setVm vm₁).heap = H := hT
  obtain ⟨f1, f2, -, -⟩ := Jvm.Free.Multi.fill_facts (T.setVm vm₁) cA cy n.toNatClampNeg k.toNatClampNeg (defaultValue ty) n.toNatClampNeg
  rw [hF, hTh] at f1 f2
  have hold : ∀ x : Nat, x < H.size → F.heap[x]? = H[x]? := fun x hx => by
    have := Jvm.Free.Multi.fill_old (T.setVm vm₁) cA cy n.toNatClampNeg k.toNatClampNeg (defaultValue ty) (a := x) (by rw [hTh]; exact hx) n.toNatClampNeg
    rw [hF, hTh] at this
    exact this
  have hrow : ∀ j : Nat, j < n.toNatClampNeg → F.heap[H.size + 1 + j]? = some (vp_cell cy z) := fun j hj => by
    have := Jvm.Free.Multi.fill_inner (T.setVm vm₁) cA cy n.toNatClampNeg k.toNatClampNeg (defaultValue ty) n.toNatClampNeg j hj
    rw [hF, hTh, hz] at this
    exact this
  have hout : Jvm.Free.Multi.outerC cA n.toNatClampNeg H.size n.toNatClampNeg = vp_cell cA (n.toNatClampNeg, .inr (.inr (.inr (.inr (fun i => if i < n.toNatClampNeg then some (H.size + 1 + i) else none))))) := by
    rw [vp_cell_q]
    exact vr_outer cA n.toNatClampNeg H.size n.toNatClampNeg
  rw [hout] at f2
  have hlt : ∀ a, a ∈ L → a < H.size := fun a ha => by
    obtain ⟨k9, hk9⟩ := va_pl_get (X := X) (f := f) ha
    exact (hP k9 _ hk9).lt
  have hnl : ∀ i : Nat, i < n.toNatClampNeg → H.size + 1 + i ∉ L := fun i _ h => by
    have := hlt _ h
    omega
  have hnm : ∀ a, a ∈ (List.range n.toNatClampNeg).map (fun i => H.size + 1 + i) → a ∉ L := fun a ha h => by
    obtain ⟨i, -, rfl⟩ := List.mem_map.mp ha
    have := hlt _ h
    omega
  have hP0 : va_P D cl (X ++ va_pl L f) F.heap := hP.kept (fun k9 x hx => hold x.1 ((hP k9 x hx).lt))
  have hP1 : va_P D cl ((X ++ va_pl L f) ++ [(H.size, .inl (cA, n.toNatClampNeg, .inr (.inr (.inr (.inr (fun i => if i < n.toNatClampNeg then some (H.size + 1 + i) else none))))))]) F.heap := hP0.app (fun k9 x hx => by
    have h0 : k9 < 1 := (List.getElem?_eq_some_iff.mp hx).1
    rw [show k9 = 0 by omega] at hx
    cases hx
    exact f2)
  have hP2 : va_P D cl (((X ++ va_pl L f) ++ [(H.size, .inl (cA, n.toNatClampNeg, .inr (.inr (.inr (.inr (fun i => if i < n.toNatClampNeg then some (H.size + 1 + i) else none))))))]) ++ ((List.range n.toNatClampNeg).map (fun i => H.size + 1 + i)).map (fun a => (a, .inl (cy, z)))) F.heap := hP1.app (fun k9 x hx => by
    obtain ⟨a, ha, rfl⟩ := List.mem_map.mp (List.mem_of_getElem? hx)
    obtain ⟨i, hi, rfl⟩ := List.mem_map.mp ha
    exact hrow i (List.mem_range.mp hi))
  have hD2 : va_D A (((X ++ va_pl L f) ++ [(H.size, .inl (cA, n.toNatClampNeg, .inr (.inr (.inr (.inr (fun i => if i < n.toNatClampNeg then some (H.size + 1 + i) else none))))))]) ++ ((List.range n.toNatClampNeg).map (fun i => H.size + 1 + i)).map (fun a => (a, .inl (cy, z)))) := by
    have hD1 := hD.push (e := .inl (cA, n.toNatClampNeg, .inr (.inr (.inr (.inr (fun i => if i < n.toNatClampNeg then some (H.size + 1 + i) else none)))))) hP rfl (hA _ hS.1)
    generalize hW1 : (X ++ va_pl L f) ++ [(H.size, .inl (cA, n.toNatClampNeg, .inr (.inr (.inr (.inr (fun i => if i < n.toNatClampNeg then some (H.size + 1 + i) else none))))))] = W1 at hD1 hP1 ⊢
    have hle : ∀ (k9 : Nat) (x : Nat × va_E), W1[k9]? = some x → x.1 ≤ H.size := fun k9 x hx => by
      rw [← hW1] at hx
      by_cases hl : k9 < (X ++ va_pl L f).length
      · rw [List.getElem?_append_left hl] at hx
        exact Nat.le_of_lt ((hP k9 x hx).lt)
      · rw [List.getElem?_append_right (by omega)] at hx
        have h0 : k9 - (X ++ va_pl L f).length < 1 := (List.getElem?_eq_some_iff.mp hx).1
        rw [show k9 - (X ++ va_pl L f).length = 0 by omega] at hx
        cases hx
        exact Nat.le_refl _
    have hr : ∀ (k9 : Nat) (x : Nat × va_E), (((List.range n.toNatClampNeg).map (fun i => H.size + 1 + i)).map (fun a => ((a, .inl (cy, z)) : Nat × va_E)))[k9]? = some x → x.1 = H.size + 1 + k9 := fun k9 x hx => by
      rw [List.getElem?_map, List.getElem?_map] at hx
      by_cases h9 : k9 < n.toNatClampNeg
      · rw [List.getElem?_range h9] at hx
        cases hx
        rfl
      · have hn0 : (List.range n.toNatClampNeg)[k9]? = none := List.getElem?_eq_none (by rw [List.length_range]; omega)
        rw [hn0] at hx
        cases hx
    refine ⟨fun i j x y hi hj hxy => ?_, fun k9 x hx => ?_⟩
    · by_cases h1 : i < W1.length <;> by_cases h2 : j < W1.length
      · rw [List.getElem?_append_left h1] at hi
        rw [List.getElem?_append_left h2] at hj
        exact hD1.1 i j x y hi hj hxy
      · rw [List.getElem?_append_left h1] at hi
        rw [List.getElem?_append_right (by omega)] at hj
        have := hle _ _ hi
        have := hr _ _ hj
        omega
      · rw [List.getElem?_append_right (by omega)] at hi
        rw [List.getElem?_append_left h2] at hj
        have := hle _ _ hj
        have := hr _ _ hi
        omega
      · rw [List.getElem?_append_right (by omega)] at hi hj
        have := hr _ _ hi
        have := hr _ _ hj
        omega
    · by_cases h1 : k9 < W1.length
      · rw [List.getElem?_append_left h1] at hx
        exact hD1.2 k9 x hx
      · rw [List.getElem?_append_right (by omega)] at hx
        have := hr _ _ hx
        exact hA _ (by have := hS.1; omega)
  have hAr : ArrOfT s cA (.array ty) := fun N9 z9 => by
    obtain ⟨-, k9, hk9, cm9, hkk9⟩ := (hO 0 0 0).1
    exact ⟨(fun q hq => by cases hq), k9, hk9, cm9, hkk9⟩
  have hK2 : va_K D cl (tys ++ [(cA, .array ty)]) s := ⟨hK.1, fun k9 x hx => by
    by_cases hl : k9 < tys.length
    · rw [List.getElem?_append_left hl] at hx
      exact hK.2 k9 x hx
    · rw [List.getElem?_append_right (by omega)] at hx
      have h0 : k9 - tys.length < 1 := (List.getElem?_eq_some_iff.mp hx).1
      rw [show k9 - tys.length = 0 by omega] at hx
      cases hx
      exact ⟨hAr, fA⟩⟩
  obtain ⟨t, a1, b1⟩ := kk H.size (fun i => H.size + 1 + i) cA F.heap (fun i j _ _ h => by have h9 : H.size + 1 + i = H.size + 1 + j := h; omega) hnl hK2 (by rw [← vr_rows hnm]; exact vr_lay hP2) (by rw [← vr_rows hnm]; exact vr_layD hD2) ⟨by rw [f1]; have := hS.1; omega, fun x h1 h2 => (hold x (Nat.lt_of_lt_of_le h1 hS.1)).trans (hS.2.1 x h1 h2), hS.2.2⟩ F rfl X'
  refine ⟨t, step t ?_, b1⟩
  have e : T.heap.size = H.size := by rw [hT]
  rw [e]
  exact a1
end VGM

theorem va_RA.uniq {U : State} {c1 c2 : ClassId} {ty : FieldType} (h1 : va_RA U c1 ty) (h2 : va_RA U c2 ty) : c1 = c2 := by
  cases ty with
  | object C =>
    obtain ⟨_, _, -, -, -, e1⟩ := h1
    obtain ⟨_, _, -, -, -, e2⟩ := h2
    exact Option.some.inj (e1.symm.trans e2)
  | _ => exact Option.some.inj (h1.symm.trans h2)
theorem va_K.last {D : va_G} {cl : List vw_C} {tys : List (ClassId × FieldType)} {U : State} {cA c0 : ClassId} {ty : FieldType} {t0 : Nat} (h : va_K D cl (tys ++ [(cA, ty)]) U) (h0 : va_K D cl tys U) (ht : tys[t0]? = some (c0, ty)) : cA = c0 := (h.2 tys.length (cA, ty) (by simp)).2.uniq (h0.2 t0 _ ht).2
section GNEW
variable {G : GT} {μ : MI} {d mc ms : Nat} {Q : Option Value → va_W → Prop} {pc pc' : Nat} {lv : List (Option Value)} {st : List Value} {ws : va_W} {ck cs : Nat}
theorem k_new {index ci N : Nat} {C : String} {T : u_T} {ty : Nat → FieldType} {fs : List Value} (hc : ClI ci C T N ty) (hd : decode μ.2.1 pc = .ok (.new index, 3)) (hl : Cond.classLink μ.1.cls index C ∈ TT) (hi : Cond.instantiable C N ∈ TT) (hn : Cond.initialized C ∈ TT) (hfs : ∀ j, j < N → defaultValue (ty j) = vp_V fs j) (hck : ck + 1 ≤ mc ∧ cs + N ≤ ms) (kk : ∀ q, Ok G μ d mc ms Q pc' lv (.ref q :: st) (ws ++ [(q, .inr (ci, fs))]) (ck + 1) (cs + N)) (hp : pc + 3 = pc' := by rfl) : Ok G μ d mc ms Q pc lv st ws ck cs := by
  intro p e s m args below meth c A H locs ls F K hA hP hD hS hlv
  subst hp
  have hts := F.2.2.2.2.2.1
  exact va_new F.1 F.2.1 hts hc.2.1 ty hc.2.2.1 F.2.2.2.2.1 (hts _ hl) (hts _ hi) (hts _ hn) K.1 hP hD hS hA hc.1 hfs hck.1 hck.2 hd (fun q H1 hP hD hS => kk q p e s m args below meth c A H1 locs ls F K hA hP hD hS hlv)
theorem k_newa {atype : ArrayType} {ty : FieldType} {t0 N' : Nat} {n : Int32} {a0 : vp_A} (hd : decode μ.2.1 pc = .ok (.newarray atype, 2)) (hty : newarray.typeOf atype = ty) (harr : Cond.arrayClass ty ∈ TT) (ht : (gTys G.2.2.1)[t0]? = some (G.2.2.1 t0, ty)) (ha : ∀ cA : ClassId, vp_cell cA a0 = arrV cA N' (fun _ => defaultValue ty)) (hn : ¬ n < 0) (hN : n.toNatClampNeg = N') (hb : N' * componentBytes ty ≤ 536870912) (hck : ck + 1 ≤ mc ∧ cs + N' ≤ ms) (kk : ∀ q, Ok G μ d mc ms Q pc' lv (.ref q :: st) (ws ++ [(q, .inl (G.2.2.1 t0, a0))]) (ck + 1) (cs + N')) (hp : pc + 2 = pc' := by rfl) : Ok G μ d mc ms Q pc lv (.int n :: st) ws ck cs := by
  intro p e s m args below meth c A H locs ls F K hA hP hD hS hlv
  subst hp
  subst hty
  have hts := F.2.2.2.2.2.1
  refine va_newa F.1 F.2.1 (hts _ harr) rfl K.1 hP hD hS hA ha hn hN hb hck.1 hck.2 hd (fun q cA H1 hK hP hD hS => ?_)
  obtain rfl := hK.last K.1 ht
  exact kk q p e s m args below meth c A H1 locs ls F K hA hP hD hS hlv
theorem k_newq {index t0 N' : Nat} {C : String} {n : Int32} (hd : decode μ.2.1 pc = .ok (.anewarray index, 3)) (hl : Cond.classLink μ.1.cls index C ∈ TT) (ho : Cond.arrayOver (.object C) ∈ NN) (ht : (gTys G.2.2.1)[t0]? = some (G.2.2.1 t0, .object C)) (hn : ¬ n < 0) (hN : n.toNatClampNeg = N') (hb : N' * 4 ≤ 536870912) (hck : ck + 1 ≤ mc ∧ cs + N' ≤ ms) (kk : ∀ q, Ok G μ d mc ms Q pc' lv (.ref q :: st) (ws ++ [(q, .inl (G.2.2.1 t0, N', .inr (.inr (.inr (.inr (fun _ => none))))))]) (ck + 1) (cs + N')) (hp : pc + 3 = pc' := by rfl) : Ok G μ d mc ms Q pc lv (.int n :: st) ws ck cs := by
  intro p e s m args below meth c A H locs ls F K hA hP hD hS hlv
  subst hp
  have hts := F.2.2.2.2.2.1
  refine va_newq F.1 F.2.1 F.2.2.2.2.1 (hts _ hl) (va_AO.of (A := #[]) (K.2 _ ho)) K.1 hP hD hS hA hn hN hb hck.1 hck.2 hd (fun q cA H1 hK hP hD hS => ?_)
  obtain rfl := hK.last K.1 ht
  exact kk q p e s m args below meth c A H1 locs ls F K hA hP hD hS hlv
theorem k_astq {q0 t0 qk ci a n v : Nat} {r : vw_C} {vs : List Value} {f : Nat → Option Nat} {i : Int32} (hd : decode μ.2.1 pc = .ok (.aastore, 1)) (ha : ws[q0]? = some (a, .inl (G.2.2.1 t0, n, .inr (.inr (.inr (.inr f)))))) (ht : (gTys G.2.2.1)[t0]? = some (G.2.2.1 t0, .object r.1)) (hv : ws[qk]? = some (v, .inr (ci, vs))) (hc : vwCl[ci]? = some r) (hin : vp_in i n) (kk : Ok G μ d mc ms Q pc' lv st (ws.set q0 (a, .inl (G.2.2.1 t0, n, .inr (.inr (.inr (.inr (va_up f i.toNatClampNeg (some v)))))))) ck cs) (hp : pc + 1 = pc' := by rfl) : Ok G μ d mc ms Q pc lv (.ref v :: .int i :: .ref a :: st) ws ck cs := by
  intro p e s m args below meth c A H locs ls F K hA hP hD hS hlv
  subst hp
  exact va_astq F.1 F.2.1 K.1 hP hD hS q0 t0 qk ci ha ht hv hc hin hd (fun H1 locs1 hP hD hS => kk p e s m args below meth c A H1 locs1 ls F K hA hP hD hS hlv)
theorem vr_all {f : Nat → va_E} {l : List Nat} {v : va_E} : va_pl ([] ++ l) (vr_up f l v) = l.map (fun a => (a, v)) := by
  unfold va_pl
  rw [List.nil_append]
  exact List.map_congr_left (fun a ha => by rw [vr_up_in ha])
theorem k_mna {index t0 t1 N' K' : Nat} {ty : FieldType} {n k : Int32} {z : vp_A} (hd : decode μ.2.1 pc = .ok (.multianewarray index 2, 4)) (hl : Cond.classLink μ.1.cls index ("[" ++ (FieldType.array ty).toString) ∈ TT) (ho : Cond.arrayOver (.array ty) ∈ NN) (harr : Cond.arrayClass ty ∈ TT) (ht : (gTys G.2.2.1)[t0]? = some (G.2.2.1 t0, .array ty)) (ht1 : ∀ U, va_K G.2.1 vwCl (gTys G.2.2.1) U → U.vm.findClass (FieldType.array ty).toString = some (G.2.2.1 t1)) (hn : ¬ n < 0) (hk : ¬ k < 0) (hN : n.toNatClampNeg = N') (hM : k.toNatClampNeg = K') (hb1 : N' * 4 ≤ 536870912) (hb2 : K' * componentBytes ty ≤ 536870912) (hb3 : K' ≤ 536870912) (hdf : fits ty (defaultValue ty) = true) (hdd : (defaultValue ty).isDefault = true) (hz : ∀ c : ClassId, Jvm.Free.Multi.innerC c K' (defaultValue ty) = vp_cell c z) (hck : ck + (1 + N') ≤ mc ∧ cs + (N' + N' * K') ≤ ms)
    (kk : ∀ (q : Nat) (r : Nat → Nat), Ok G μ d mc ms Q pc' lv (.ref q :: st) ((ws ++ [(q, .inl (G.2.2.1 t0, N', .inr (.inr (.inr (.inr (fun i => if i < N' then some (r i) else none))))))]) ++ ((List.range N').map r).map (fun a => (a, .inl (G.2.2.1 t1, z)))) (ck + 1 + N') (cs + N' + N' * K')) (hp : pc + 4 = pc' := by rfl) : Ok G μ d mc ms Q pc lv (.int k :: .int n :: st) ws ck cs := by
  intro p e s m args below meth c A H locs ls F K hA hP hD hS hlv
  subst hp
  have hts := F.2.2.2.2.2.1
  refine va_mna (X := ws) (L := []) (f := fun _ => .inr (0, [])) (z := z) F.1 F.2.1 F.2.2.2.2.1 (hts _ hl) (va_AOA.of (A := #[]) (K.2 _ ho)) (hts _ harr) (ht1 s K.1) K.1 (by rw [show va_pl [] (fun _ => (.inr (0, []) : va_E)) = [] from rfl, List.append_nil]; exact hP) (by rw [show va_pl [] (fun _ => (.inr (0, []) : va_E)) = [] from rfl, List.append_nil]; exact hD) hS hA hn hk hN hM hb1 hb2 hb3 hdf hdd hck.1 hck.2 hz hd (fun q r cA H1 _ _ hK hP hD hS => ?_)
  obtain rfl := hK.last K.1 ht
  rw [vr_all] at hP hD
  exact kk q r p e s m args below meth c A H1 locs ls F K hA hP hD hS hlv
theorem k_obj {index a : Nat} (hd : decode μ.2.1 pc = .ok (.invokespecial index, 3)) (hl : Cond.methodLink μ.1.cls index Lib.objectInit ∈ TT) (hi : Cond.instanceMethod Lib.objectInit ∈ TT) (hc : Cond.code Lib.objectInit ⟨#[0xb1]⟩ 1 none ∈ TT) (hdd : 0 < d) (hr : (st.map fun v => v.category).sum ≤ 8) (kk : Ok G μ d mc ms Q pc' lv st ws ck cs) (hp : pc + 3 = pc' := by rfl) : Ok G μ d mc ms Q pc lv (.ref a :: st) ws ck cs := by
  intro p e s m args below meth c A H locs ls F K hA hP hD hS hlv
  subst hp
  have hts := F.2.2.2.2.2.1
  refine W.objInit F.1 F.2.1 F.2.2.2.2.1 (hts _ hl) (hts _ hi) (hts _ hc) (g := F0 m pc ls (.ref a :: st)) rfl (by rw [F.2.2.2.1]; exact hlv.1) rfl hd hdd ?_ (kk p e s m args below meth c A H locs ls F K hA hP hD hS hlv)
  have e : (F0 m pc ls (.ref a :: st)).monitorRoom = 0 := rfl
  rw [e]
  show 2 * 0 + _ + 12 ≤ 64 * d
  omega
/-! the same over a world in two halves -/
theorem ap_get {α : Type} {X Y : List α} {k : Nat} {x : α} (h : Y[k]? = some x) : (X ++ Y)[X.length + k]? = some x := by
  rw [List.getElem?_append_right (by omega), show X.length + k - X.length = k by omega, h]
theorem ap_set {α : Type} {X Y : List α} {k : Nat} {x : α} : (X ++ Y).set (X.length + k) x = X ++ Y.set k x := by
  rw [List.set_append_right _ _ (by omega), show X.length + k - X.length = k by omega]
variable {X Y : va_W}
theorem y_putF {idx ci k N q a : Nat} {C : String} {T : u_T} {ty : Nat → FieldType} {fs : List Value} {v : Value} (hc : ClI ci C T N ty) (hk : k < N) (hf : Cond.fieldLink μ.1.cls idx (T k).1 (T k).2.1 (T k).2.2.1 ∈ TT) (hd : decode μ.2.1 pc = .ok (.putfield idx, 3)) (hfin : (T k).2.2.2 = true) (hin : μ.1.name = "<init>") (hown : (T k).1 = μ.1.cls) (hn : narrow (ty k) v = v) (hfit : fits (ty k) v = true) (hw : Y[q]? = some (a, .inr (ci, fs))) (hlen : k < fs.length) (kk : Ok G μ d mc ms Q pc' lv st (X ++ Y.set q (a, .inr (ci, fs.set k v))) ck cs) (hp : pc + 3 = pc' := by rfl) : Ok G μ d mc ms Q pc lv (v :: .ref a :: st) (X ++ Y) ck cs :=
  k_putF hc hk hf hd hfin hin hown hn hfit (ap_get hw) hlen (by rw [ap_set]; exact kk) hp
theorem y_put {idx ci k N q a : Nat} {C : String} {T : u_T} {ty : Nat → FieldType} {fs : List Value} {v : Value} (hc : ClI ci C T N ty) (hk : k < N) (hf : FL μ.1.cls idx T k) (hd : decode μ.2.1 pc = .ok (.putfield idx, 3)) (hfin : (T k).2.2.2 = false) (hn : narrow (ty k) v = v) (hfit : fits (ty k) v = true) (hw : Y[q]? = some (a, .inr (ci, fs))) (hlen : k < fs.length) (kk : Ok G μ d mc ms Q pc' lv st (X ++ Y.set q (a, .inr (ci, fs.set k v))) ck cs) (hp : pc + 3 = pc' := by rfl) : Ok G μ d mc ms Q pc lv (v :: .ref a :: st) (X ++ Y) ck cs :=
  k_put hc hk hf hd hfin hn hfit (ap_get hw) hlen (by rw [ap_set]; exact kk) hp
theorem y_new {index ci N : Nat} {C : String} {T : u_T} {ty : Nat → FieldType} {fs : List Value} (hc : ClI ci C T N ty) (hd : decode μ.2.1 pc = .ok (.new index, 3)) (hl : Cond.classLink μ.1.cls index C ∈ TT) (hi : Cond.instantiable C N ∈ TT) (hn : Cond.initialized C ∈ TT) (hfs : ∀ j, j < N → defaultValue (ty j) = vp_V fs j) (hck : ck + 1 ≤ mc ∧ cs + N ≤ ms) (kk : ∀ q, Ok G μ d mc ms Q pc' lv (.ref q :: st) (X ++ (Y ++ [(q, .inr (ci, fs))])) (ck + 1) (cs + N)) (hp : pc + 3 = pc' := by rfl) : Ok G μ d mc ms Q pc lv st (X ++ Y) ck cs :=
  k_new hc hd hl hi hn hfs hck (fun q => by rw [List.append_assoc]; exact kk q) hp
theorem y_newa {atype : ArrayType} {ty : FieldType} {t0 N' : Nat} {n : Int32} {a0 : vp_A} (hd : decode μ.2.1 pc = .ok (.newarray atype, 2)) (hty : newarray.typeOf atype = ty) (harr : Cond.arrayClass ty ∈ TT) (ht : (gTys G.2.2.1)[t0]? = some (G.2.2.1 t0, ty)) (ha : ∀ cA : ClassId, vp_cell cA a0 = arrV cA N' (fun _ => defaultValue ty)) (hn : ¬ n < 0) (hN : n.toNatClampNeg = N') (hb : N' * componentBytes ty ≤ 536870912) (hck : ck + 1 ≤ mc ∧ cs + N' ≤ ms) (kk : ∀ q, Ok G μ d mc ms Q pc' lv (.ref q :: st) (X ++ (Y ++ [(q, .inl (G.2.2.1 t0, a0))])) (ck + 1) (cs + N')) (hp : pc + 2 = pc' := by rfl) : Ok G μ d mc ms Q pc lv (.int n :: st) (X ++ Y) ck cs :=
  k_newa hd hty harr ht ha hn hN hb hck (fun q => by rw [List.append_assoc]; exact kk q) hp
theorem y_newq {index t0 N' : Nat} {C : String} {n : Int32} (hd : decode μ.2.1 pc = .ok (.anewarray index, 3)) (hl : Cond.classLink μ.1.cls index C ∈ TT) (ho : Cond.arrayOver (.object C) ∈ NN) (ht : (gTys G.2.2.1)[t0]? = some (G.2.2.1 t0, .object C)) (hn : ¬ n < 0) (hN : n.toNatClampNeg = N') (hb : N' * 4 ≤ 536870912) (hck : ck + 1 ≤ mc ∧ cs + N' ≤ ms) (kk : ∀ q, Ok G μ d mc ms Q pc' lv (.ref q :: st) (X ++ (Y ++ [(q, .inl (G.2.2.1 t0, N', .inr (.inr (.inr (.inr (fun _ => none))))))])) (ck + 1) (cs + N')) (hp : pc + 3 = pc' := by rfl) : Ok G μ d mc ms Q pc lv (.int n :: st) (X ++ Y) ck cs :=
  k_newq hd hl ho ht hn hN hb hck (fun q => by rw [List.append_assoc]; exact kk q) hp
theorem y_astq {q0 t0 qk ci a n v : Nat} {r : vw_C} {vs : List Value} {f : Nat → Option Nat} {i : Int32} (hd : decode μ.2.1 pc = .ok (.aastore, 1)) (ha : Y[q0]? = some (a, .inl (G.2.2.1 t0, n, .inr (.inr (.inr (.inr f)))))) (ht : (gTys G.2.2.1)[t0]? = some (G.2.2.1 t0, .object r.1)) (hv : Y[qk]? = some (v, .inr (ci, vs))) (hc : vwCl[ci]? = some r) (hin : vp_in i n) (kk : Ok G μ d mc ms Q pc' lv st (X ++ Y.set q0 (a, .inl (G.2.2.1 t0, n, .inr (.inr (.inr (.inr (va_up f i.toNatClampNeg (some v)))))))) ck cs) (hp : pc + 1 = pc' := by rfl) : Ok G μ d mc ms Q pc lv (.ref v :: .int i :: .ref a :: st) (X ++ Y) ck cs :=
  k_astq hd (ap_get ha) ht (ap_get hv) hc hin (by rw [ap_set]; exact kk) hp
theorem y_get {idx ci k N q a : Nat} {C : String} {T : u_T} {ty : Nat → FieldType} {fs : List Value} {v : Value} (hc : ClI ci C T N ty) (hk : k < N) (hf : FL μ.1.cls idx T k) (hd : decode μ.2.1 pc = .ok (.getfield idx, 3)) (hw : Y[q]? = some (a, .inr (ci, fs))) (hv : fs[k]? = some v) (kk : Ok G μ d mc ms Q pc' lv (v :: st) (X ++ Y) ck cs) (hp : pc + 3 = pc' := by rfl) : Ok G μ d mc ms Q pc lv (.ref a :: st) (X ++ Y) ck cs :=
  k_get hc hk hf hd (ap_get hw) hv kk hp
theorem z_astq {t0 ci a n v : Nat} {r : vw_C} {vs : List Value} {f : Nat → Option Nat} {i : Int32} {z : Nat × va_E} {Ra S U : va_W} (hd : decode μ.2.1 pc = .ok (.aastore, 1)) (ht : (gTys G.2.2.1)[t0]? = some (G.2.2.1 t0, .object r.1)) (hc : vwCl[ci]? = some r) (hin : vp_in i n) (kk : Ok G μ d mc ms Q pc' lv st (X ++ (z :: (Ra ++ ((a, .inl (G.2.2.1 t0, n, .inr (.inr (.inr (.inr (va_up f i.toNatClampNeg (some v))))))) :: (S ++ ((v, .inr (ci, vs)) :: U)))))) ck cs) (hp : pc + 1 = pc' := by rfl) : Ok G μ d mc ms Q pc lv (.ref v :: .int i :: .ref a :: st) (X ++ (z :: (Ra ++ ((a, .inl (G.2.2.1 t0, n, .inr (.inr (.inr (.inr f))))) :: (S ++ ((v, .inr (ci, vs)) :: U)))))) ck cs := by
  have e : ∀ T : va_W, X ++ (z :: (Ra ++ T)) = (X ++ z :: Ra) ++ T := fun T => by simp
  rw [e] at kk ⊢
  generalize X ++ z :: Ra = P at *
  refine k_astq (vs := vs) (q0 := P.length + 0) (qk := P.length + (S.length + 1)) hd (ap_get rfl) ht (ap_get ?_) hc hin (by rw [ap_set]; exact kk) hp
  rw [List.getElem?_cons_succ]
  exact ap_get (k := 0) rfl
end GNEW
