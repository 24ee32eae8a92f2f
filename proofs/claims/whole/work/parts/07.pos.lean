/-! cells by their places: place q of the store s lies at the address adr G q -/
def kW : Nat := 104
def adr (G : GT) (q : Nat) : Nat := G.2.2.2 q
abbrev Sto : Type := Nat → va_E
def wl (G : GT) (σ : Sto) : va_W := (List.range kW).map (fun q => (adr G q, σ q))
theorem wl_get {G : GT} {σ : Sto} {q : Nat} (h : q < kW) : (wl G σ)[q]? = some (adr G q, σ q) := by
  unfold wl
  rw [List.getElem?_map, List.getElem?_range h]
  rfl
theorem wl_set {G : GT} {σ : Sto} {q : Nat} {e : va_E} (h : q < kW) : (wl G σ).set q (adr G q, e) = wl G (va_up σ q e) := by
  apply List.ext_getElem?
  intro i
  rw [List.getElem?_set]
  by_cases hi : q = i
  · subst hi
    rw [if_pos rfl, wl_get h]
    have : q < (wl G σ).length := by simp [wl, h]
    rw [if_pos this]
    simp [va_up]
  · rw [if_neg hi]
    by_cases hk : i < kW
    · rw [wl_get hk, wl_get hk]
      simp [va_up, Ne.symm hi]
    · have h1 : (wl G σ).length ≤ i := by simp [wl]; omega
      have h2 : (wl G (va_up σ q e)).length ≤ i := by simp [wl]; omega
      rw [List.getElem?_eq_none h1, List.getElem?_eq_none h2]
def aI (G : GT) (n : Nat) (f : Nat → Int32) : va_E := .inl (G.2.2.1 0, n, .inl f)
def aJ (G : GT) (n : Nat) (f : Nat → Int64) : va_E := .inl (G.2.2.1 1, n, .inr (.inl f))
def aZ (G : GT) (n : Nat) (f : Nat → Int32) : va_E := .inl (G.2.2.1 2, n, .inl f)
/-- an array of references to the places f i -/
def aR (G : GT) (t n : Nat) (f : Nat → Nat) : va_E := .inl (G.2.2.1 t, n, .inr (.inr (.inr (.inr (fun i => some (adr G (f i)))))))
def ob (ci : Nat) (fs : List Value) : va_E := .inr (ci, fs)
def qP (G : GT) (Qp : Option Value → Sto → Prop) : Option Value → va_W → Prop := fun v ws => ∃ σ, ws = wl G σ ∧ Qp v σ
abbrev OkP (G : GT) (μ : MI) (d : Nat) (Qp : Option Value → Sto → Prop) (pc : Nat) (lv : List (Option Value)) (st : List Value) (σ : Sto) : Prop := Ok G μ d 0 0 (qP G Qp) pc lv st (wl G σ) 0 0
def ConP (G : GT) (μ : MI) (d : Nat) (av : List Value) (σ : Sto) (Qp : Option Value → Sto → Prop) : Prop := Con G μ d 0 0 av (wl G σ) (qP G Qp)
def rI (r : Int32) (σ1 : Sto) : Option Value → Sto → Prop := fun v σ' => v = some (.int r) ∧ σ' = σ1
def rL (r : Int64) (σ1 : Sto) : Option Value → Sto → Prop := fun v σ' => v = some (.long r) ∧ σ' = σ1
def rV (σ1 : Sto) : Option Value → Sto → Prop := fun v σ' => v = none ∧ σ' = σ1
section GP
variable {G : GT} {μ ν : MI} {d d' : Nat} {Q Q' : Option Value → Sto → Prop} {pc pc' : Nat} {lv : List (Option Value)} {st rest As av : List Value} {σ σ' : Sto}
theorem ConP.of (hpn : plainName μ.1.cls = true) (hlen : (lg_sl av).length ≤ μ.2.2.1) (h : OkP G μ d Q 0 (lvin μ.2.2.1 av) [] σ) : ConP G μ d av σ Q := Con.of hpn hlen h
theorem ConP.mono (h : ConP G μ d av σ Q) (hq : ∀ v σ', Q v σ' → Q' v σ') : ConP G μ d av σ Q' := Con.mono h (fun v ws ⟨σ', e, h1⟩ => ⟨σ', e, hq v σ' h1⟩)
theorem p_ireturn {v : Int32} (hd : decode μ.2.1 pc = .ok (.ireturn, 1)) (hr : μ.2.2.2 = some .int) (hq : Q (some (.int v)) σ) : OkP G μ d Q pc lv [.int v] σ := k_ireturn hd hr rfl ⟨σ, rfl, hq⟩
theorem p_zreturn {v : Int32} (hd : decode μ.2.1 pc = .ok (.ireturn, 1)) (hr : μ.2.2.2 = some .boolean) (hv : v = 0 ∨ v = 1) (hq : Q (some (.int v)) σ) : OkP G μ d Q pc lv [.int v] σ := k_ireturn hd hr (by rcases hv with rfl | rfl <;> rfl) ⟨σ, rfl, hq⟩
theorem p_lreturn {v : Int64} (hd : decode μ.2.1 pc = .ok (.lreturn, 1)) (hr : μ.2.2.2 = some .long) (hq : Q (some (.long v)) σ) : OkP G μ d Q pc lv [.long v] σ := k_lreturn hd hr ⟨σ, rfl, hq⟩
theorem p_return (hd : decode μ.2.1 pc = .ok (.return_, 1)) (hr : μ.2.2.2 = none) (hq : Q none σ) : OkP G μ d Q pc lv [] σ := k_return hd hr ⟨σ, rfl, hq⟩
theorem p_get {idx ci k N q : Nat} {C : String} {T : u_T} {ty : Nat → FieldType} {fs : List Value} {v : Value} (hc : ClI ci C T N ty) (hk : k < N) (hf : FL μ.1.cls idx T k) (hd : decode μ.2.1 pc = .ok (.getfield idx, 3)) (hq : q < kW) (hw : σ q = ob ci fs) (hv : fs[k]? = some v) (kk : OkP G μ d Q pc' lv (v :: st) σ) (hp : pc + 3 = pc' := by rfl) : OkP G μ d Q pc lv (.ref (adr G q) :: st) σ := k_get hc hk hf hd ((wl_get hq).trans (by rw [hw]; rfl)) hv kk hp
theorem p_put {idx ci k N q : Nat} {C : String} {T : u_T} {ty : Nat → FieldType} {fs : List Value} {v : Value} (hc : ClI ci C T N ty) (hk : k < N) (hf : FL μ.1.cls idx T k) (hd : decode μ.2.1 pc = .ok (.putfield idx, 3)) (hfin : (T k).2.2.2 = false) (hn : narrow (ty k) v = v) (hfit : fits (ty k) v = true) (hq : q < kW) (hw : σ q = ob ci fs) (hlen : k < fs.length) (kk : OkP G μ d Q pc' lv st (va_up σ q (ob ci (fs.set k v)))) (hp : pc + 3 = pc' := by rfl) : OkP G μ d Q pc lv (v :: .ref (adr G q) :: st) σ := by
  refine k_put hc hk hf hd hfin hn hfit ((wl_get hq).trans (by rw [hw]; rfl)) hlen ?_ hp
  rw [wl_set hq]
  exact kk
theorem p_iald {q n : Nat} {f : Nat → Int32} {i : Int32} (hd : decode μ.2.1 pc = .ok (.iaload, 1)) (hq : q < kW) (hw : σ q = aI G n f) (hin : vp_in i n) (kk : OkP G μ d Q pc' lv (.int (f i.toNatClampNeg) :: st) σ) (hp : pc + 1 = pc' := by rfl) : OkP G μ d Q pc lv (.int i :: .ref (adr G q) :: st) σ := k_iald hd ((wl_get hq).trans (by rw [hw]; rfl)) hin kk hp
theorem p_lald {q n : Nat} {f : Nat → Int64} {i : Int32} (hd : decode μ.2.1 pc = .ok (.laload, 1)) (hq : q < kW) (hw : σ q = aJ G n f) (hin : vp_in i n) (kk : OkP G μ d Q pc' lv (.long (f i.toNatClampNeg) :: st) σ) (hp : pc + 1 = pc' := by rfl) : OkP G μ d Q pc lv (.int i :: .ref (adr G q) :: st) σ := k_lald hd ((wl_get hq).trans (by rw [hw]; rfl)) hin kk hp
theorem p_zald {q n : Nat} {f : Nat → Int32} {i : Int32} (hd : decode μ.2.1 pc = .ok (.baload, 1)) (hq : q < kW) (hw : σ q = aZ G n f) (hin : vp_in i n) (kk : OkP G μ d Q pc' lv (.int (f i.toNatClampNeg) :: st) σ) (hp : pc + 1 = pc' := by rfl) : OkP G μ d Q pc lv (.int i :: .ref (adr G q) :: st) σ := k_zald hd ((wl_get hq).trans (by rw [hw]; rfl)) hin kk hp
theorem p_iast {q n : Nat} {f : Nat → Int32} {i x : Int32} (hd : decode μ.2.1 pc = .ok (.iastore, 1)) (hq : q < kW) (hw : σ q = aI G n f) (hin : vp_in i n) (kk : OkP G μ d Q pc' lv st (va_up σ q (aI G n (upd f i.toNatClampNeg x)))) (hp : pc + 1 = pc' := by rfl) : OkP G μ d Q pc lv (.int x :: .int i :: .ref (adr G q) :: st) σ := by
  refine k_iast hd ((wl_get hq).trans (by rw [hw]; rfl)) hin ?_ hp
  rw [wl_set hq]
  exact kk
theorem p_last {q n : Nat} {f : Nat → Int64} {i : Int32} {x : Int64} (hd : decode μ.2.1 pc = .ok (.lastore, 1)) (hq : q < kW) (hw : σ q = aJ G n f) (hin : vp_in i n) (kk : OkP G μ d Q pc' lv st (va_up σ q (aJ G n (vp_updL f i.toNatClampNeg x)))) (hp : pc + 1 = pc' := by rfl) : OkP G μ d Q pc lv (.long x :: .int i :: .ref (adr G q) :: st) σ := by
  refine k_last hd ((wl_get hq).trans (by rw [hw]; rfl)) hin ?_ hp
  rw [wl_set hq]
  exact kk
theorem p_zast {q n : Nat} {f : Nat → Int32} {i x : Int32} (hd : decode μ.2.1 pc = .ok (.bastore, 1)) (hx : x = 0 ∨ x = 1) (hq : q < kW) (hw : σ q = aZ G n f) (hin : vp_in i n) (kk : OkP G μ d Q pc' lv st (va_up σ q (aZ G n (upd f i.toNatClampNeg x)))) (hp : pc + 1 = pc' := by rfl) : OkP G μ d Q pc lv (.int x :: .int i :: .ref (adr G q) :: st) σ := by
  refine k_zast hd ((wl_get hq).trans (by rw [hw]; rfl)) hin ?_ hp
  rw [wl_set hq]
  rcases hx with rfl | rfl <;> exact kk
theorem p_aald {q n t0 : Nat} {ty : FieldType} {f : Nat → Nat} {i : Int32} (hd : decode μ.2.1 pc = .ok (.aaload, 1)) (ht : (gTys G.2.2.1)[t0]? = some (G.2.2.1 t0, ty)) (hty : ty.isReference = true) (hq : q < kW) (hw : σ q = aR G t0 n f) (hin : vp_in i n) (kk : OkP G μ d Q pc' lv (.ref (adr G (f i.toNatClampNeg)) :: st) σ) (hp : pc + 1 = pc' := by rfl) : OkP G μ d Q pc lv (.int i :: .ref (adr G q) :: st) σ := k_aald (f := fun j => some (adr G (f j))) hd ht hty ((wl_get hq).trans (by rw [hw]; rfl)) hin rfl kk hp
theorem p_alen {q n : Nat} {f : Nat → Int32} (hd : decode μ.2.1 pc = .ok (.arraylength, 1)) (hq : q < kW) (hw : σ q = aI G n f) (kk : OkP G μ d Q pc' lv (.int (Int32.ofNat n) :: st) σ) (hp : pc + 1 = pc' := by rfl) : OkP G μ d Q pc lv (.ref (adr G q) :: st) σ := k_alen (t0 := 0) hd rfl ((wl_get hq).trans (by rw [hw]; rfl)) kk hp
theorem p_max {idx : Nat} {x y v : Int32} (hd : decode μ.2.1 pc = .ok (.invokestatic idx, 3)) (hm : Cond.methodLink μ.1.cls idx Lib.Math.max.name ∈ TT) (hdd : 0 < d) (hr : (st.map fun v => v.category).sum ≤ 8) (hv : (if x < y then y else x) = v) (kk : OkP G μ d Q pc' lv (.int v :: st) σ) (hp : pc + 3 = pc' := by rfl) : OkP G μ d Q pc lv (.int y :: .int x :: st) σ := by subst hv; exact k_max hd hm hdd hr ⟨Nat.le_refl _, Nat.le_refl _⟩ kk hp
theorem p_min {idx : Nat} {x y v : Int32} (hd : decode μ.2.1 pc = .ok (.invokestatic idx, 3)) (hm : Cond.methodLink μ.1.cls idx Lib.Math.min.name ∈ TT) (hdd : 0 < d) (hr : (st.map fun v => v.category).sum ≤ 8) (hv : (if y < x then y else x) = v) (kk : OkP G μ d Q pc' lv (.int v :: st) σ) (hp : pc + 3 = pc' := by rfl) : OkP G μ d Q pc lv (.int y :: .int x :: st) σ := by subst hv; exact k_min hd hm hdd hr ⟨Nat.le_refl _, Nat.le_refl _⟩ kk hp
theorem p_abs {idx : Nat} {x v : Int32} (hd : decode μ.2.1 pc = .ok (.invokestatic idx, 3)) (hm : Cond.methodLink μ.1.cls idx Lib.Math.abs.name ∈ TT) (hdd : 0 < d) (hr : (st.map fun v => v.category).sum ≤ 8) (hv : (if 0 ≤ x then x else 0 - x) = v) (kk : OkP G μ d Q pc' lv (.int v :: st) σ) (hp : pc + 3 = pc' := by rfl) : OkP G μ d Q pc lv (.int x :: st) σ := by subst hv; exact k_abs hd hm hdd hr ⟨Nat.le_refl _, Nat.le_refl _⟩ kk hp
theorem p_maxl {idx : Nat} {x y v : Int64} (hd : decode μ.2.1 pc = .ok (.invokestatic idx, 3)) (hm : Cond.methodLink μ.1.cls idx Lib.MathLoose.max_long.x ∈ TT) (hdd : 0 < d) (hr : (st.map fun v => v.category).sum ≤ 8) (hv : (if y < x then x else y) = v) (kk : OkP G μ d Q pc' lv (.long v :: st) σ) (hp : pc + 3 = pc' := by rfl) : OkP G μ d Q pc lv (.long y :: .long x :: st) σ := by subst hv; exact k_maxl hd hm hdd hr ⟨Nat.le_refl _, Nat.le_refl _⟩ kk hp
theorem p_copyi {idx q0 q1 n0 n1 : Nat} {f g : Nat → Int32} {sp dp n : Int32} (hd : decode μ.2.1 pc = .ok (.invokestatic idx, 3)) (hm : Cond.methodLink μ.1.cls idx arraycopyName ∈ TT) (hdd : 0 < d) (hr : (st.map fun v => v.category).sum ≤ 8) (hq0 : q0 < kW) (hw0 : σ q0 = aI G n0 f) (hq1 : q1 < kW) (hw1 : σ q1 = aI G n1 g) (h1 : ¬ sp < 0) (h2 : ¬ dp < 0) (h3 : ¬ n < 0) (h4 : sp.toNatClampNeg + n.toNatClampNeg ≤ n0) (h5 : dp.toNatClampNeg + n.toNatClampNeg ≤ n1) (kk : OkP G μ d Q pc' lv st (va_up σ q1 (aI G n1 (va_cpy f g sp.toNatClampNeg dp.toNatClampNeg n.toNatClampNeg)))) (hp : pc + 3 = pc' := by rfl) : OkP G μ d Q pc lv (.int n :: .int dp :: .ref (adr G q1) :: .int sp :: .ref (adr G q0) :: st) σ := by
  refine k_copyi hd hm hdd hr ((wl_get hq0).trans (by rw [hw0]; rfl)) ((wl_get hq1).trans (by rw [hw1]; rfl)) h1 h2 h3 h4 h5 ?_ hp
  rw [wl_set hq1]
  exact kk
theorem p_copyl {idx q0 q1 n0 n1 : Nat} {f g : Nat → Int64} {sp dp n : Int32} (hd : decode μ.2.1 pc = .ok (.invokestatic idx, 3)) (hm : Cond.methodLink μ.1.cls idx arraycopyName ∈ TT) (hdd : 0 < d) (hr : (st.map fun v => v.category).sum ≤ 8) (hq0 : q0 < kW) (hw0 : σ q0 = aJ G n0 f) (hq1 : q1 < kW) (hw1 : σ q1 = aJ G n1 g) (h1 : ¬ sp < 0) (h2 : ¬ dp < 0) (h3 : ¬ n < 0) (h4 : sp.toNatClampNeg + n.toNatClampNeg ≤ n0) (h5 : dp.toNatClampNeg + n.toNatClampNeg ≤ n1) (kk : OkP G μ d Q pc' lv st (va_up σ q1 (aJ G n1 (va_cpy f g sp.toNatClampNeg dp.toNatClampNeg n.toNatClampNeg)))) (hp : pc + 3 = pc' := by rfl) : OkP G μ d Q pc lv (.int n :: .int dp :: .ref (adr G q1) :: .int sp :: .ref (adr G q0) :: st) σ := by
  refine k_copyl hd hm hdd hr ((wl_get hq0).trans (by rw [hw0]; rfl)) ((wl_get hq1).trans (by rw [hw1]; rfl)) h1 h2 h3 h4 h5 ?_ hp
  rw [wl_set hq1]
  exact kk
/-- a call by any contract -/
theorem p_callV {idx n q ci N : Nat} {T : u_T} {ty : Nat → FieldType} {fs : List Value} (hd : decode μ.2.1 pc = .ok (.invokevirtual idx, 3)) (hm : ML μ.1.cls idx ν.1) (hi : MoI ν n) (hv : MoV ν) (hcl : ClI ci ν.1.cls T N ty) (hL : ν.2.2.1 ≤ 45) (hn : As.length = n) (hst : st = As.reverse ++ .ref (adr G q) :: rest) (hrest : (rest.map fun v => v.category).sum ≤ 8) (hq : q < kW) (hw : σ q = ob ci fs) (hdd : d' < d) (hC : ConP G ν d' (.ref (adr G q) :: As) σ Q')
    (kk : ∀ (v : Option Value) (σ' : Sto), Q' v σ' → OkP G μ d Q pc' lv (v.toList ++ rest) σ') (hp : pc + 3 = pc' := by rfl) : OkP G μ d Q pc lv st σ :=
  k_callV hd hm hi hv hcl hC hdd hn hst hrest ((wl_get hq).trans (by rw [hw]; rfl)) hL ⟨Nat.le_refl _, Nat.le_refl _⟩ (fun v ws' ⟨σ', e, h⟩ => by subst e; exact kk v σ' h) hp
theorem p_callS {idx n : Nat} (hd : decode μ.2.1 pc = .ok (.invokestatic idx, 3)) (hm : ML μ.1.cls idx ν.1) (hi : MoI ν n) (hv : MoS ν) (hL : ν.2.2.1 ≤ 45) (hn : As.length = n) (hst : st = As.reverse ++ rest) (hrest : (rest.map fun v => v.category).sum ≤ 8) (hdd : d' < d) (hC : ConP G ν d' As σ Q')
    (kk : ∀ (v : Option Value) (σ' : Sto), Q' v σ' → OkP G μ d Q pc' lv (v.toList ++ rest) σ') (hp : pc + 3 = pc' := by rfl) : OkP G μ d Q pc lv st σ :=
  k_callS hd hm hi hv hC hdd hn hst hrest hL ⟨Nat.le_refl _, Nat.le_refl _⟩ (fun v ws' ⟨σ', e, h⟩ => by subst e; exact kk v σ' h) hp
/-- calls whose answer and store are known -/
theorem rI_k {r : Int32} {σ1 : Sto} {P : Option Value → Sto → Prop} (k : P (some (.int r)) σ1) : ∀ (v : Option Value) (σ' : Sto), rI r σ1 v σ' → P v σ' := fun v σ' h => by obtain ⟨rfl, rfl⟩ := h; exact k
theorem rL_k {r : Int64} {σ1 : Sto} {P : Option Value → Sto → Prop} (k : P (some (.long r)) σ1) : ∀ (v : Option Value) (σ' : Sto), rL r σ1 v σ' → P v σ' := fun v σ' h => by obtain ⟨rfl, rfl⟩ := h; exact k
theorem rV_k {σ1 : Sto} {P : Option Value → Sto → Prop} (k : P none σ1) : ∀ (v : Option Value) (σ' : Sto), rV σ1 v σ' → P v σ' := fun v σ' h => by obtain ⟨rfl, rfl⟩ := h; exact k
theorem p_vI {idx n q ci N : Nat} {T : u_T} {ty : Nat → FieldType} {fs : List Value} {r : Int32} {σ1 : Sto} (hd : decode μ.2.1 pc = .ok (.invokevirtual idx, 3)) (hm : ML μ.1.cls idx ν.1) (hi : MoI ν n) (hv : MoV ν) (hcl : ClI ci ν.1.cls T N ty) (hL : ν.2.2.1 ≤ 45) (hn : As.length = n) (hst : st = As.reverse ++ .ref (adr G q) :: rest) (hrest : (rest.map fun v => v.category).sum ≤ 8) (hq : q < kW) (hw : σ q = ob ci fs) (hdd : d' < d) (hC : ConP G ν d' (.ref (adr G q) :: As) σ (rI r σ1)) (kk : OkP G μ d Q pc' lv (.int r :: rest) σ1) (hp : pc + 3 = pc' := by rfl) : OkP G μ d Q pc lv st σ :=
  p_callV hd hm hi hv hcl hL hn hst hrest hq hw hdd hC (fun v σ' h => by obtain ⟨rfl, rfl⟩ := h; exact kk) hp
theorem p_vV {idx n q ci N : Nat} {T : u_T} {ty : Nat → FieldType} {fs : List Value} {σ1 : Sto} (hd : decode μ.2.1 pc = .ok (.invokevirtual idx, 3)) (hm : ML μ.1.cls idx ν.1) (hi : MoI ν n) (hv : MoV ν) (hcl : ClI ci ν.1.cls T N ty) (hL : ν.2.2.1 ≤ 45) (hn : As.length = n) (hst : st = As.reverse ++ .ref (adr G q) :: rest) (hrest : (rest.map fun v => v.category).sum ≤ 8) (hq : q < kW) (hw : σ q = ob ci fs) (hdd : d' < d) (hC : ConP G ν d' (.ref (adr G q) :: As) σ (rV σ1)) (kk : OkP G μ d Q pc' lv rest σ1) (hp : pc + 3 = pc' := by rfl) : OkP G μ d Q pc lv st σ :=
  p_callV hd hm hi hv hcl hL hn hst hrest hq hw hdd hC (fun v σ' h => by obtain ⟨rfl, rfl⟩ := h; exact kk) hp
theorem p_sI {idx n : Nat} {r : Int32} {σ1 : Sto} (hd : decode μ.2.1 pc = .ok (.invokestatic idx, 3)) (hm : ML μ.1.cls idx ν.1) (hi : MoI ν n) (hv : MoS ν) (hL : ν.2.2.1 ≤ 45) (hn : As.length = n) (hst : st = As.reverse ++ rest) (hrest : (rest.map fun v => v.category).sum ≤ 8) (hdd : d' < d) (hC : ConP G ν d' As σ (rI r σ1)) (kk : OkP G μ d Q pc' lv (.int r :: rest) σ1) (hp : pc + 3 = pc' := by rfl) : OkP G μ d Q pc lv st σ :=
  p_callS hd hm hi hv hL hn hst hrest hdd hC (fun v σ' h => by obtain ⟨rfl, rfl⟩ := h; exact kk) hp
theorem p_sL {idx n : Nat} {r : Int64} {σ1 : Sto} (hd : decode μ.2.1 pc = .ok (.invokestatic idx, 3)) (hm : ML μ.1.cls idx ν.1) (hi : MoI ν n) (hv : MoS ν) (hL : ν.2.2.1 ≤ 45) (hn : As.length = n) (hst : st = As.reverse ++ rest) (hrest : (rest.map fun v => v.category).sum ≤ 8) (hdd : d' < d) (hC : ConP G ν d' As σ (rL r σ1)) (kk : OkP G μ d Q pc' lv (.long r :: rest) σ1) (hp : pc + 3 = pc' := by rfl) : OkP G μ d Q pc lv st σ :=
  p_callS hd hm hi hv hL hn hst hrest hdd hC (fun v σ' h => by obtain ⟨rfl, rfl⟩ := h; exact kk) hp
theorem p_sV {idx n : Nat} {σ1 : Sto} (hd : decode μ.2.1 pc = .ok (.invokestatic idx, 3)) (hm : ML μ.1.cls idx ν.1) (hi : MoI ν n) (hv : MoS ν) (hL : ν.2.2.1 ≤ 45) (hn : As.length = n) (hst : st = As.reverse ++ rest) (hrest : (rest.map fun v => v.category).sum ≤ 8) (hdd : d' < d) (hC : ConP G ν d' As σ (rV σ1)) (kk : OkP G μ d Q pc' lv rest σ1) (hp : pc + 3 = pc' := by rfl) : OkP G μ d Q pc lv st σ :=
  p_callS hd hm hi hv hL hn hst hrest hdd hC (fun v σ' h => by obtain ⟨rfl, rfl⟩ := h; exact kk) hp
/-- indexes that are naturals -/
theorem p_ialdN {q n k : Nat} {f : Nat → Int32} (hd : decode μ.2.1 pc = .ok (.iaload, 1)) (hq : q < kW) (hw : σ q = aI G n f) (hn : n < 2 ^ 31) (hk : k < n) (kk : OkP G μ d Q pc' lv (.int (f k) :: st) σ) (hp : pc + 1 = pc' := by rfl) : OkP G μ d Q pc lv (.int (nI k) :: .ref (adr G q) :: st) σ :=
  p_iald hd hq hw (vp_in_nI hk hn) (by rw [nI_clamp (Nat.lt_trans hk hn)]; exact kk) hp
theorem p_laldN {q n k : Nat} {f : Nat → Int64} (hd : decode μ.2.1 pc = .ok (.laload, 1)) (hq : q < kW) (hw : σ q = aJ G n f) (hn : n < 2 ^ 31) (hk : k < n) (kk : OkP G μ d Q pc' lv (.long (f k) :: st) σ) (hp : pc + 1 = pc' := by rfl) : OkP G μ d Q pc lv (.int (nI k) :: .ref (adr G q) :: st) σ :=
  p_lald hd hq hw (vp_in_nI hk hn) (by rw [nI_clamp (Nat.lt_trans hk hn)]; exact kk) hp
theorem p_zaldN {q n k : Nat} {f : Nat → Int32} (hd : decode μ.2.1 pc = .ok (.baload, 1)) (hq : q < kW) (hw : σ q = aZ G n f) (hn : n < 2 ^ 31) (hk : k < n) (kk : OkP G μ d Q pc' lv (.int (f k) :: st) σ) (hp : pc + 1 = pc' := by rfl) : OkP G μ d Q pc lv (.int (nI k) :: .ref (adr G q) :: st) σ :=
  p_zald hd hq hw (vp_in_nI hk hn) (by rw [nI_clamp (Nat.lt_trans hk hn)]; exact kk) hp
theorem p_aaldN {q n t0 k : Nat} {ty : FieldType} {f : Nat → Nat} (hd : decode μ.2.1 pc = .ok (.aaload, 1)) (ht : (gTys G.2.2.1)[t0]? = some (G.2.2.1 t0, ty)) (hty : ty.isReference = true) (hq : q < kW) (hw : σ q = aR G t0 n f) (hn : n < 2 ^ 31) (hk : k < n) (kk : OkP G μ d Q pc' lv (.ref (adr G (f k)) :: st) σ) (hp : pc + 1 = pc' := by rfl) : OkP G μ d Q pc lv (.int (nI k) :: .ref (adr G q) :: st) σ :=
  p_aald hd ht hty hq hw (vp_in_nI hk hn) (by rw [nI_clamp (Nat.lt_trans hk hn)]; exact kk) hp
theorem p_iastN {q n k : Nat} {f : Nat → Int32} {x : Int32} {σ1 : Sto} (hd : decode μ.2.1 pc = .ok (.iastore, 1)) (hq : q < kW) (hw : σ q = aI G n f) (hn : n < 2 ^ 31) (hk : k < n) (hσ : va_up σ q (aI G n (upd f k x)) = σ1) (kk : OkP G μ d Q pc' lv st σ1) (hp : pc + 1 = pc' := by rfl) : OkP G μ d Q pc lv (.int x :: .int (nI k) :: .ref (adr G q) :: st) σ :=
  p_iast hd hq hw (vp_in_nI hk hn) (by rw [nI_clamp (Nat.lt_trans hk hn), hσ]; exact kk) hp
theorem p_lastN {q n k : Nat} {f : Nat → Int64} {x : Int64} {σ1 : Sto} (hd : decode μ.2.1 pc = .ok (.lastore, 1)) (hq : q < kW) (hw : σ q = aJ G n f) (hn : n < 2 ^ 31) (hk : k < n) (hσ : va_up σ q (aJ G n (vp_updL f k x)) = σ1) (kk : OkP G μ d Q pc' lv st σ1) (hp : pc + 1 = pc' := by rfl) : OkP G μ d Q pc lv (.long x :: .int (nI k) :: .ref (adr G q) :: st) σ :=
  p_last hd hq hw (vp_in_nI hk hn) (by rw [nI_clamp (Nat.lt_trans hk hn), hσ]; exact kk) hp
theorem p_zastN {q n k : Nat} {f : Nat → Int32} {x : Int32} {σ1 : Sto} (hd : decode μ.2.1 pc = .ok (.bastore, 1)) (hx : x = 0 ∨ x = 1) (hq : q < kW) (hw : σ q = aZ G n f) (hn : n < 2 ^ 31) (hk : k < n) (hσ : va_up σ q (aZ G n (upd f k x)) = σ1) (kk : OkP G μ d Q pc' lv st σ1) (hp : pc + 1 = pc' := by rfl) : OkP G μ d Q pc lv (.int x :: .int (nI k) :: .ref (adr G q) :: st) σ :=
  p_zast hd hx hq hw (vp_in_nI hk hn) (by rw [nI_clamp (Nat.lt_trans hk hn), hσ]; exact kk) hp
/-- a field of numbers -/
theorem p_putI {idx ci k N q : Nat} {C : String} {T : u_T} {ty : Nat → FieldType} {fs : List Value} {x : Int32} {σ1 : Sto} (hc : ClI ci C T N ty) (hk : k < N) (hf : FL μ.1.cls idx T k) (hd : decode μ.2.1 pc = .ok (.putfield idx, 3)) (hfin : (T k).2.2.2 = false) (hty : ty k = .int ∨ (ty k = .boolean ∧ (x = 0 ∨ x = 1))) (hq : q < kW) (hw : σ q = ob ci fs) (hlen : k < fs.length) (hσ : va_up σ q (ob ci (fs.set k (.int x))) = σ1) (kk : OkP G μ d Q pc' lv st σ1) (hp : pc + 3 = pc' := by rfl) : OkP G μ d Q pc lv (.int x :: .ref (adr G q) :: st) σ := by
  subst hσ
  rcases hty with h | ⟨h, h1⟩
  · exact p_put hc hk hf hd hfin (by rw [h]; rfl) (by rw [h]; rfl) hq hw hlen kk hp
  · exact p_put hc hk hf hd hfin (by rw [h]; rcases h1 with rfl | rfl <;> rfl) (by rw [h]; rcases h1 with rfl | rfl <;> rfl) hq hw hlen kk hp
theorem nI_inc (i : Nat) : nI i + Int32.ofInt 1 = nI (i + 1) := nI_1 i
theorem up_s {α : Type} {f : Nat → α} {k : Nat} {v : α} : va_up f k v k = v := by simp [va_up]
theorem up_n {α : Type} {f : Nat → α} {k j : Nat} {v : α} (h : j ≠ k) : va_up f k v j = f j := by simp [va_up, h]
theorem up_up {α : Type} {f : Nat → α} {k : Nat} {v w : α} : va_up (va_up f k v) k w = va_up f k w := by
  funext j
  by_cases h : j = k
  · subst h; simp [va_up]
  · simp [va_up, h]
theorem up_c {α : Type} {f : Nat → α} {k j : Nat} {v w : α} (h : j ≠ k) : va_up (va_up f k v) j w = va_up (va_up f j w) k v := by
  funext i
  by_cases h1 : i = j
  · subst h1; simp [va_up, h]
  · simp [va_up, h1]
theorem up_id {α : Type} {f : Nat → α} {k : Nat} {v : α} (h : f k = v) : va_up f k v = f := by
  funext j
  by_cases h1 : j = k
  · subst h1; simp [va_up, h]
  · simp [va_up, h1]
end GP
