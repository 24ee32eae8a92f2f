abbrev GT : Type := Launch × va_G × (Nat → ClassId) × (Nat → Nat)
def gTys (g : Nat → ClassId) : List (ClassId × FieldType) := [(g 0, .int), (g 1, .long), (g 2, .boolean), (g 3, .object RX6), (g 4, .object RX1), (g 5, .array .int), (g 6, .array .long)]
/-- what is known of the tables in a state -/
def gKK (G : GT) (U : State) : Prop := va_K G.2.1 vwCl (gTys G.2.2.1) U ∧ ∀ w ∈ NN, va_Nw w U
def gRm (d mc ms : Nat) : Room := { frames := d, cells := mc, slots := ms, locals := 64 * d }
def gQ (G : GT) (A : Nat → Prop) (Q : Option Value → va_W → Prop) : Array Value → State → Outcome → State → Prop := fun _ st oc t => (∃ (v : Option Value) (ws' : va_W), oc = .returned v ∧ Q v ws' ∧ va_P G.2.1 vwCl ws' t.heap ∧ va_D A ws') ∧ va_F A st t
def gPc (G : GT) (av : List Value) (ws : va_W) (sz : Nat) : Array Value → State → Prop := va_Pc av (fun U => U.heap.size = sz ∧ va_P G.2.1 vwCl ws U.heap ∧ gKK G U ∧ va_D (fun _ => True) ws)
/-- a method's contract: from the cells ws with these arguments it returns, Q of its answer and the cells behind it -/
def Con (G : GT) (μ : MI) (d mc ms : Nat) (av : List Value) (ws : va_W) (Q : Option Value → va_W → Prop) : Prop := ∀ sz : Nat, Met G.1 μ.1 (Cond.code μ.1 μ.2.1 μ.2.2.1 μ.2.2.2 :: TT) (gRm d mc ms) (gPc G av ws sz) (gQ G (va_A ws sz) Q) mc ms (va_A ws sz)
def gFx (p : Program) (s : State) (m : MethodId) (args : Array Value) (meth : Method) (c : Code) (μ : MI) : Prop := p.tables.exec = Jvm.exec ∧ c.code = μ.2.1 ∧ meth.sig.returnType = μ.2.2.2 ∧ c.maxLocals = μ.2.2.1 ∧ s.vm.findClass μ.1.cls = some m.cls ∧ (∀ w ∈ TT, w.before args s = true) ∧ meth.locks = false ∧ meth.name = μ.1.name
/-- locals by their places; none: nothing is said -/
def lhas (ls : Array Slot) (n : Nat) (lv : List (Option Value)) : Prop := ls.size = n ∧ lv_wf ls ∧ ∀ (i : Nat) (v : Value), lv[i]? = some (some v) → ls[i]? = some (.val v)
/-- the machine at pc of the method μ, with these locals, this stack and these cells, comes to its end with Q -/
def Ok (G : GT) (μ : MI) (d mc ms : Nat) (Q : Option Value → va_W → Prop) (pc : Nat) (lv : List (Option Value)) (st : List Value) (ws : va_W) (ck cs : Nat) : Prop :=
  ∀ (p : Program) (e : Env) (s : State) (m : MethodId) (args : Array Value) (below : List Frame) (meth : Method) (c : Code) (A : Nat → Prop) (H : Heap) (locs : List Loc) (ls : Array Slot),
    gFx p s m args meth c μ → gKK G s → (∀ q, s.heap.size ≤ q → A q) → va_P G.2.1 vwCl ws H → va_D A ws → va_S A s.heap H locs → lhas ls μ.2.2.1 lv →
    W p G.1 e (gRm d mc ms) s m args below meth c H locs ck cs (MQ below (gQ G A Q) args s mc ms A) (F0 m pc ls st)
def lvL : Nat → List (Option Value) → List (Nat × Value)
  | _, [] => []
  | i, none :: r => lvL (i + 1) r
  | i, some v :: r => (i, v) :: lvL (i + 1) r
theorem lvL_mem : ∀ (lv : List (Option Value)) (i : Nat) (q : Nat × Value), q ∈ lvL i lv ↔ ∃ j, q.1 = i + j ∧ lv[j]? = some (some q.2)
  | [], i, q => by simp [lvL]
  | none :: r, i, q => by
    rw [lvL, lvL_mem r (i + 1) q]
    constructor
    · rintro ⟨j, h1, h2⟩
      exact ⟨j + 1, by omega, by simpa using h2⟩
    · rintro ⟨j, h1, h2⟩
      cases j with
      | zero => simp at h2
      | succ j => exact ⟨j, by omega, by simpa using h2⟩
  | some v :: r, i, q => by
    rw [lvL, List.mem_cons, lvL_mem r (i + 1) q]
    constructor
    · rintro (h | ⟨j, h1, h2⟩)
      · subst h
        exact ⟨0, by simp, by simp⟩
      · exact ⟨j + 1, by omega, by simpa using h2⟩
    · rintro ⟨j, h1, h2⟩
      cases j with
      | zero =>
        left
        simp at h2
        obtain ⟨a, b⟩ := q
        simp at h1 h2
        rw [h1, h2]
      | succ j => exact Or.inr ⟨j, by omega, by simpa using h2⟩
theorem lhas.to {ls : Array Slot} {n : Nat} {lv : List (Option Value)} (h : lhas ls n lv) : lv_has ls n (lvL 0 lv) := by
  refine ⟨h.1, h.2.1, fun q hq => ?_⟩
  obtain ⟨j, h1, h2⟩ := (lvL_mem lv 0 q).mp hq
  have e : q.1 = j := by omega
  rw [e]
  exact h.2.2 j q.2 h2
theorem lhas.of {ls : Array Slot} {n : Nat} {l : List (Nat × Value)} {lv : List (Option Value)} (h : lv_has ls n l) (hs : ∀ (i : Nat) (v : Value), lv[i]? = some (some v) → (i, v) ∈ l) : lhas ls n lv := ⟨h.1, h.2.1, fun i v hi => h.2.2 (i, v) (hs i v hi)⟩
/-- no long stands ahead of the place i -/
def lvok (lv : List (Option Value)) (i : Nat) : Bool := match lv[i - 1]? with
  | some (some w) => i == 0 || w.category != 2
  | _ => true
theorem lvok_ne {lv : List (Option Value)} {i j : Nat} {w : Value} (h : lvok lv i = true) (hj : lv[j]? = some (some w)) (e : j + 1 = i) : ¬ w.category = 2 := by
  subst e
  intro hc
  simp [lvok, hj, hc] at h
theorem lhas.set1 {ls' : Array Slot} {n i : Nat} {v : Value} {lv : List (Option Value)} (hok : lvok lv i = true) (h : lv_has ls' n ((i, v) :: (lvL 0 lv).filter (fun q => !(q.1 == i) && !(q.1 + 1 == i && q.2.category == 2)))) : lhas ls' n (lv.set i (some v)) := by
  refine lhas.of h fun j w hj => ?_
  rw [List.getElem?_set] at hj
  by_cases e : i = j
  · rw [if_pos e] at hj
    by_cases e2 : i < lv.length
    · rw [if_pos e2] at hj
      simp at hj
      subst hj; subst e
      exact List.mem_cons_self
    · rw [if_neg e2] at hj
      cases hj
  · rw [if_neg e] at hj
    refine List.mem_cons_of_mem _ (List.mem_filter.mpr ⟨(lvL_mem lv 0 (j, w)).mpr ⟨j, by simp, hj⟩, ?_⟩)
    have h1 : ¬ j = i := fun q => e q.symm
    by_cases e3 : j + 1 = i
    · have := lvok_ne hok hj e3
      simp [h1, this]
    · simp [h1, e3]
theorem lhas.set2 {ls' : Array Slot} {n i : Nat} {v : Value} {lv : List (Option Value)} (hok : lvok lv i = true) (h : lv_has ls' n ((i, v) :: (lvL 0 lv).filter (fun q => !(q.1 == i) && (!(q.1 == i + 1) && !(q.1 + 1 == i && q.2.category == 2))))) : lhas ls' n ((lv.set i (some v)).set (i + 1) none) := by
  refine lhas.of h fun j w hj => ?_
  rw [List.getElem?_set] at hj
  by_cases e0 : i + 1 = j
  · rw [if_pos e0] at hj
    split at hj <;> cases hj
  rw [if_neg e0, List.getElem?_set] at hj
  by_cases e : i = j
  · rw [if_pos e] at hj
    by_cases e2 : i < lv.length
    · rw [if_pos e2] at hj
      simp at hj
      subst hj; subst e
      exact List.mem_cons_self
    · rw [if_neg e2] at hj
      cases hj
  · rw [if_neg e] at hj
    refine List.mem_cons_of_mem _ (List.mem_filter.mpr ⟨(lvL_mem lv 0 (j, w)).mpr ⟨j, by simp, hj⟩, ?_⟩)
    have h1 : ¬ j = i := fun q => e q.symm
    have h0 : ¬ j = i + 1 := fun q => e0 q.symm
    by_cases e3 : j + 1 = i
    · have := lvok_ne hok hj e3
      simp [h1, h0, this]
    · simp [h1, h0, e3]
theorem lhas.get {ls : Array Slot} {n i : Nat} {v : Value} {lv : List (Option Value)} (h : lhas ls n lv) (hi : lv[i]? = some (some v)) : ls[i]? = some (.val v) := h.2.2 i v hi
section GOK
variable {G : GT} {μ : MI} {d mc ms : Nat} {Q : Option Value → va_W → Prop} {pc pc' : Nat} {lv : List (Option Value)} {st : List Value} {ws : va_W} {ck cs : Nat}
/-- fewer locals are needed -/
theorem Ok.drop (i : Nat) (h : Ok G μ d mc ms Q pc (lv.set i none) st ws ck cs) : Ok G μ d mc ms Q pc lv st ws ck cs := by
  intro p e s m args below meth c A H locs ls F K hA hP hD hS hl
  refine h p e s m args below meth c A H locs ls F K hA hP hD hS ⟨hl.1, hl.2.1, fun j w hj => ?_⟩
  rw [List.getElem?_set] at hj
  split at hj
  · split at hj <;> cases hj
  · exact hl.2.2 j w hj
theorem Ok.wide {ck' cs' : Nat} (h1 : ck ≤ ck') (h2 : cs ≤ cs') (h : Ok G μ d mc ms Q pc lv st ws ck' cs') : Ok G μ d mc ms Q pc lv st ws ck cs := by
  intro p e s m args below meth c A H locs ls F K hA hP hD hS hl
  exact W.widen h1 h2 (h p e s m args below meth c A H locs ls F K hA hP hD hS hl)
theorem k_iconst {n : Int} {v : Int32} (hd : decode μ.2.1 pc = .ok (.iconst n, 1)) (hv : Int32.ofInt n = v) (k : Ok G μ d mc ms Q pc' lv (.int v :: st) ws ck cs) (hp : pc + 1 = pc' := by rfl) : Ok G μ d mc ms Q pc lv st ws ck cs := by
  intro p e s m args below meth c A H locs ls F K hA hP hD hS hl
  subst hp
  have hx := F.1
  have hb := F.2.1
  exact lv_iconst hx hb hd hv (k p e s m args below meth c A H locs ls F K hA hP hD hS hl)
theorem k_bipush {n : Int} {v : Int32} (hd : decode μ.2.1 pc = .ok (.bipush n, 2)) (hv : (Int8.ofInt n).toInt32 = v) (k : Ok G μ d mc ms Q pc' lv (.int v :: st) ws ck cs) (hp : pc + 2 = pc' := by rfl) : Ok G μ d mc ms Q pc lv st ws ck cs := by
  intro p e s m args below meth c A H locs ls F K hA hP hD hS hl
  subst hp
  have hx := F.1
  have hb := F.2.1
  exact lv_bipush hx hb hd hv (k p e s m args below meth c A H locs ls F K hA hP hD hS hl)
theorem k_sipush {n : Int} {v : Int32} (hd : decode μ.2.1 pc = .ok (.sipush n, 3)) (hv : (Int16.ofInt n).toInt32 = v) (k : Ok G μ d mc ms Q pc' lv (.int v :: st) ws ck cs) (hp : pc + 3 = pc' := by rfl) : Ok G μ d mc ms Q pc lv st ws ck cs := by
  intro p e s m args below meth c A H locs ls F K hA hP hD hS hl
  subst hp
  have hx := F.1
  have hb := F.2.1
  exact lv_sipush hx hb hd hv (k p e s m args below meth c A H locs ls F K hA hP hD hS hl)
theorem k_lconst {n : Fin 2} {v : Int64} (hd : decode μ.2.1 pc = .ok (.lconst n, 1)) (hv : Int64.ofNat (n : Nat) = v) (k : Ok G μ d mc ms Q pc' lv (.long v :: st) ws ck cs) (hp : pc + 1 = pc' := by rfl) : Ok G μ d mc ms Q pc lv st ws ck cs := by
  intro p e s m args below meth c A H locs ls F K hA hP hD hS hl
  subst hp
  have hx := F.1
  have hb := F.2.1
  exact lv_lconst hx hb hd hv (k p e s m args below meth c A H locs ls F K hA hP hD hS hl)
theorem k_ldc2 {n : Nat} {v : Int64} (hd : decode μ.2.1 pc = .ok (.ldc2_w n, 3)) (hv : Cond.constantLong μ.1.cls n v ∈ TT) (k : Ok G μ d mc ms Q pc' lv (.long v :: st) ws ck cs) (hp : pc + 3 = pc' := by rfl) : Ok G μ d mc ms Q pc lv st ws ck cs := by
  intro p e s m args below meth c A H locs ls F K hA hP hD hS hl
  subst hp
  have hx := F.1
  have hb := F.2.1
  exact lv_ldc2 hx hb F.2.2.2.2.1 (F.2.2.2.2.2.1 _ hv) hd (k p e s m args below meth c A H locs ls F K hA hP hD hS hl)
theorem k_iload_n {i : Fin 4} {x : Int32} (hd : decode μ.2.1 pc = .ok (.iload_n i, 1)) (hi : lv[(i : Nat)]? = some (some (.int x))) (k : Ok G μ d mc ms Q pc' lv (.int x :: st) ws ck cs) (hp : pc + 1 = pc' := by rfl) : Ok G μ d mc ms Q pc lv st ws ck cs := by
  intro p e s m args below meth c A H locs ls F K hA hP hD hS hl
  subst hp
  have hx := F.1
  have hb := F.2.1
  exact lv_iload_n hx hb hd rfl (hl.get hi) (k p e s m args below meth c A H locs ls F K hA hP hD hS hl)
theorem k_iload {i : Nat} {x : Int32} (hd : decode μ.2.1 pc = .ok (.iload i, 2)) (hi : lv[i]? = some (some (.int x))) (k : Ok G μ d mc ms Q pc' lv (.int x :: st) ws ck cs) (hp : pc + 2 = pc' := by rfl) : Ok G μ d mc ms Q pc lv st ws ck cs := by
  intro p e s m args below meth c A H locs ls F K hA hP hD hS hl
  subst hp
  have hx := F.1
  have hb := F.2.1
  exact lv_iload hx hb hd (hl.get hi) (k p e s m args below meth c A H locs ls F K hA hP hD hS hl)
theorem k_lload_n {i : Fin 4} {x : Int64} (hd : decode μ.2.1 pc = .ok (.lload_n i, 1)) (hi : lv[(i : Nat)]? = some (some (.long x))) (k : Ok G μ d mc ms Q pc' lv (.long x :: st) ws ck cs) (hp : pc + 1 = pc' := by rfl) : Ok G μ d mc ms Q pc lv st ws ck cs := by
  intro p e s m args below meth c A H locs ls F K hA hP hD hS hl
  subst hp
  have hx := F.1
  have hb := F.2.1
  exact lv_lload_n hx hb hd rfl (hl.get hi) (k p e s m args below meth c A H locs ls F K hA hP hD hS hl)
theorem k_lload {i : Nat} {x : Int64} (hd : decode μ.2.1 pc = .ok (.lload i, 2)) (hi : lv[i]? = some (some (.long x))) (k : Ok G μ d mc ms Q pc' lv (.long x :: st) ws ck cs) (hp : pc + 2 = pc' := by rfl) : Ok G μ d mc ms Q pc lv st ws ck cs := by
  intro p e s m args below meth c A H locs ls F K hA hP hD hS hl
  subst hp
  have hx := F.1
  have hb := F.2.1
  exact lv_lload hx hb hd (hl.get hi) (k p e s m args below meth c A H locs ls F K hA hP hD hS hl)
theorem k_aload_n {i : Fin 4} {x : Nat} (hd : decode μ.2.1 pc = .ok (.aload_n i, 1)) (hi : lv[(i : Nat)]? = some (some (.ref x))) (k : Ok G μ d mc ms Q pc' lv (.ref x :: st) ws ck cs) (hp : pc + 1 = pc' := by rfl) : Ok G μ d mc ms Q pc lv st ws ck cs := by
  intro p e s m args below meth c A H locs ls F K hA hP hD hS hl
  subst hp
  have hx := F.1
  have hb := F.2.1
  exact lv_aload_n hx hb hd rfl (hl.get hi) (k p e s m args below meth c A H locs ls F K hA hP hD hS hl)
theorem k_aload {i : Nat} {x : Nat} (hd : decode μ.2.1 pc = .ok (.aload i, 2)) (hi : lv[i]? = some (some (.ref x))) (k : Ok G μ d mc ms Q pc' lv (.ref x :: st) ws ck cs) (hp : pc + 2 = pc' := by rfl) : Ok G μ d mc ms Q pc lv st ws ck cs := by
  intro p e s m args below meth c A H locs ls F K hA hP hD hS hl
  subst hp
  have hx := F.1
  have hb := F.2.1
  exact lv_aload hx hb hd (hl.get hi) (k p e s m args below meth c A H locs ls F K hA hP hD hS hl)
theorem k_istore_n {i : Fin 4} {x : Int32} (hd : decode μ.2.1 pc = .ok (.istore_n i, 1)) (hn : (i : Nat) < μ.2.2.1) (hok : lvok lv i = true) (k : Ok G μ d mc ms Q pc' (lv.set (i : Nat) (some (.int x))) st ws ck cs) (hp : pc + 1 = pc' := by rfl) : Ok G μ d mc ms Q pc lv (.int x :: st) ws ck cs := by
  intro p e s m args below meth c A H locs ls F K hA hP hD hS hl
  subst hp
  have hx := F.1
  have hb := F.2.1
  exact lv_istore_n hx hb hd rfl hl.to hn rfl (fun ls' hl' => k p e s m args below meth c A H locs ls' F K hA hP hD hS (lhas.set1 hok hl'))
theorem k_istore {i : Nat} {x : Int32} (hd : decode μ.2.1 pc = .ok (.istore i, 2)) (hn : i < μ.2.2.1) (hok : lvok lv i = true) (k : Ok G μ d mc ms Q pc' (lv.set i (some (.int x))) st ws ck cs) (hp : pc + 2 = pc' := by rfl) : Ok G μ d mc ms Q pc lv (.int x :: st) ws ck cs := by
  intro p e s m args below meth c A H locs ls F K hA hP hD hS hl
  subst hp
  have hx := F.1
  have hb := F.2.1
  exact lv_istore hx hb hd hl.to hn rfl (fun ls' hl' => k p e s m args below meth c A H locs ls' F K hA hP hD hS (lhas.set1 hok hl'))
theorem k_astore_n {i : Fin 4} {x : Nat} (hd : decode μ.2.1 pc = .ok (.astore_n i, 1)) (hn : (i : Nat) < μ.2.2.1) (hok : lvok lv i = true) (k : Ok G μ d mc ms Q pc' (lv.set (i : Nat) (some (.ref x))) st ws ck cs) (hp : pc + 1 = pc' := by rfl) : Ok G μ d mc ms Q pc lv (.ref x :: st) ws ck cs := by
  intro p e s m args below meth c A H locs ls F K hA hP hD hS hl
  subst hp
  have hx := F.1
  have hb := F.2.1
  exact lv_astore_n hx hb hd rfl hl.to hn rfl (fun ls' hl' => k p e s m args below meth c A H locs ls' F K hA hP hD hS (lhas.set1 hok hl'))
theorem k_astore {i : Nat} {x : Nat} (hd : decode μ.2.1 pc = .ok (.astore i, 2)) (hn : i < μ.2.2.1) (hok : lvok lv i = true) (k : Ok G μ d mc ms Q pc' (lv.set i (some (.ref x))) st ws ck cs) (hp : pc + 2 = pc' := by rfl) : Ok G μ d mc ms Q pc lv (.ref x :: st) ws ck cs := by
  intro p e s m args below meth c A H locs ls F K hA hP hD hS hl
  subst hp
  have hx := F.1
  have hb := F.2.1
  exact lv_astore hx hb hd hl.to hn rfl (fun ls' hl' => k p e s m args below meth c A H locs ls' F K hA hP hD hS (lhas.set1 hok hl'))
theorem k_lstore_n {i : Fin 4} {x : Int64} (hd : decode μ.2.1 pc = .ok (.lstore_n i, 1)) (hn : (i : Nat) + 1 < μ.2.2.1) (hok : lvok lv i = true) (k : Ok G μ d mc ms Q pc' ((lv.set (i : Nat) (some (.long x))).set ((i : Nat) + 1) none) st ws ck cs) (hp : pc + 1 = pc' := by rfl) : Ok G μ d mc ms Q pc lv (.long x :: st) ws ck cs := by
  intro p e s m args below meth c A H locs ls F K hA hP hD hS hl
  subst hp
  have hx := F.1
  have hb := F.2.1
  exact lv_lstore_n hx hb hd rfl hl.to hn rfl (fun ls' hl' => k p e s m args below meth c A H locs ls' F K hA hP hD hS (lhas.set2 hok hl'))
theorem k_lstore {i : Nat} {x : Int64} (hd : decode μ.2.1 pc = .ok (.lstore i, 2)) (hn : i + 1 < μ.2.2.1) (hok : lvok lv i = true) (k : Ok G μ d mc ms Q pc' ((lv.set i (some (.long x))).set (i + 1) none) st ws ck cs) (hp : pc + 2 = pc' := by rfl) : Ok G μ d mc ms Q pc lv (.long x :: st) ws ck cs := by
  intro p e s m args below meth c A H locs ls F K hA hP hD hS hl
  subst hp
  have hx := F.1
  have hb := F.2.1
  exact lv_lstore hx hb hd hl.to hn rfl (fun ls' hl' => k p e s m args below meth c A H locs ls' F K hA hP hD hS (lhas.set2 hok hl'))
theorem k_iinc {i : Nat} {n : Int} {x v : Int32} (hd : decode μ.2.1 pc = .ok (.iinc i n, 3)) (hi : lv[i]? = some (some (.int x))) (hv : x + Int32.ofInt n = v) (hn : i < μ.2.2.1) (hok : lvok lv i = true) (k : Ok G μ d mc ms Q pc' (lv.set i (some (.int v))) st ws ck cs) (hp : pc + 3 = pc' := by rfl) : Ok G μ d mc ms Q pc lv st ws ck cs := by
  intro p e s m args below meth c A H locs ls F K hA hP hD hS hl
  subst hp
  have hx := F.1
  have hb := F.2.1
  obtain ⟨z, hz⟩ := List.getElem?_of_mem ((lvL_mem lv 0 (i, .int x)).mpr ⟨i, by simp, hi⟩)
  exact lv_iinc hx hb hd hl.to hz hv hn rfl (fun ls' hl' => k p e s m args below meth c A H locs ls' F K hA hP hD hS (lhas.set1 hok hl'))
theorem k_iadd {x y v : Int32} (hd : decode μ.2.1 pc = .ok (.iadd, 1)) (hv : x + y = v) (k : Ok G μ d mc ms Q pc' lv (.int v :: st) ws ck cs) (hp : pc + 1 = pc' := by rfl) : Ok G μ d mc ms Q pc lv (.int y :: .int x :: st) ws ck cs := by
  intro p e s m args below meth c A H locs ls F K hA hP hD hS hl
  subst hp
  have hx := F.1
  have hb := F.2.1
  subst hv
  exact lv_iadd hx hb hd (k p e s m args below meth c A H locs ls F K hA hP hD hS hl)
theorem k_isub {x y v : Int32} (hd : decode μ.2.1 pc = .ok (.isub, 1)) (hv : x - y = v) (k : Ok G μ d mc ms Q pc' lv (.int v :: st) ws ck cs) (hp : pc + 1 = pc' := by rfl) : Ok G μ d mc ms Q pc lv (.int y :: .int x :: st) ws ck cs := by
  intro p e s m args below meth c A H locs ls F K hA hP hD hS hl
  subst hp
  have hx := F.1
  have hb := F.2.1
  subst hv
  exact lv_isub hx hb hd (k p e s m args below meth c A H locs ls F K hA hP hD hS hl)
theorem k_imul {x y v : Int32} (hd : decode μ.2.1 pc = .ok (.imul, 1)) (hv : x * y = v) (k : Ok G μ d mc ms Q pc' lv (.int v :: st) ws ck cs) (hp : pc + 1 = pc' := by rfl) : Ok G μ d mc ms Q pc lv (.int y :: .int x :: st) ws ck cs := by
  intro p e s m args below meth c A H locs ls F K hA hP hD hS hl
  subst hp
  have hx := F.1
  have hb := F.2.1
  subst hv
  exact lv_imul hx hb hd (k p e s m args below meth c A H locs ls F K hA hP hD hS hl)
theorem k_iand {x y v : Int32} (hd : decode μ.2.1 pc = .ok (.iand, 1)) (hv : x &&& y = v) (k : Ok G μ d mc ms Q pc' lv (.int v :: st) ws ck cs) (hp : pc + 1 = pc' := by rfl) : Ok G μ d mc ms Q pc lv (.int y :: .int x :: st) ws ck cs := by
  intro p e s m args below meth c A H locs ls F K hA hP hD hS hl
  subst hp
  have hx := F.1
  have hb := F.2.1
  subst hv
  exact lv_iand hx hb hd (k p e s m args below meth c A H locs ls F K hA hP hD hS hl)
theorem k_ior {x y v : Int32} (hd : decode μ.2.1 pc = .ok (.ior, 1)) (hv : x ||| y = v) (k : Ok G μ d mc ms Q pc' lv (.int v :: st) ws ck cs) (hp : pc + 1 = pc' := by rfl) : Ok G μ d mc ms Q pc lv (.int y :: .int x :: st) ws ck cs := by
  intro p e s m args below meth c A H locs ls F K hA hP hD hS hl
  subst hp
  have hx := F.1
  have hb := F.2.1
  subst hv
  exact lv_ior hx hb hd (k p e s m args below meth c A H locs ls F K hA hP hD hS hl)
theorem k_ixor {x y v : Int32} (hd : decode μ.2.1 pc = .ok (.ixor, 1)) (hv : x ^^^ y = v) (k : Ok G μ d mc ms Q pc' lv (.int v :: st) ws ck cs) (hp : pc + 1 = pc' := by rfl) : Ok G μ d mc ms Q pc lv (.int y :: .int x :: st) ws ck cs := by
  intro p e s m args below meth c A H locs ls F K hA hP hD hS hl
  subst hp
  have hx := F.1
  have hb := F.2.1
  subst hv
  exact lv_ixor hx hb hd (k p e s m args below meth c A H locs ls F K hA hP hD hS hl)
theorem k_ishl {x y v : Int32} (hd : decode μ.2.1 pc = .ok (.ishl, 1)) (hv : x <<< (y &&& 31) = v) (k : Ok G μ d mc ms Q pc' lv (.int v :: st) ws ck cs) (hp : pc + 1 = pc' := by rfl) : Ok G μ d mc ms Q pc lv (.int y :: .int x :: st) ws ck cs := by
  intro p e s m args below meth c A H locs ls F K hA hP hD hS hl
  subst hp
  have hx := F.1
  have hb := F.2.1
  subst hv
  exact lv_ishl hx hb hd (k p e s m args below meth c A H locs ls F K hA hP hD hS hl)
theorem k_ishr {x y v : Int32} (hd : decode μ.2.1 pc = .ok (.ishr, 1)) (hv : x >>> (y &&& 31) = v) (k : Ok G μ d mc ms Q pc' lv (.int v :: st) ws ck cs) (hp : pc + 1 = pc' := by rfl) : Ok G μ d mc ms Q pc lv (.int y :: .int x :: st) ws ck cs := by
  intro p e s m args below meth c A H locs ls F K hA hP hD hS hl
  subst hp
  have hx := F.1
  have hb := F.2.1
  subst hv
  exact lv_ishr hx hb hd (k p e s m args below meth c A H locs ls F K hA hP hD hS hl)
theorem k_idiv {x y v : Int32} (hd : decode μ.2.1 pc = .ok (.idiv, 1)) (hne : ¬ y = 0) (hv : x / y = v) (k : Ok G μ d mc ms Q pc' lv (.int v :: st) ws ck cs) (hp : pc + 1 = pc' := by rfl) : Ok G μ d mc ms Q pc lv (.int y :: .int x :: st) ws ck cs := by
  intro p e s m args below meth c A H locs ls F K hA hP hD hS hl
  subst hp
  have hx := F.1
  have hb := F.2.1
  subst hv
  exact lv_idiv hx hb hd hne (k p e s m args below meth c A H locs ls F K hA hP hD hS hl)
theorem k_irem {x y v : Int32} (hd : decode μ.2.1 pc = .ok (.irem, 1)) (hne : ¬ y = 0) (hv : x - x / y * y = v) (k : Ok G μ d mc ms Q pc' lv (.int v :: st) ws ck cs) (hp : pc + 1 = pc' := by rfl) : Ok G μ d mc ms Q pc lv (.int y :: .int x :: st) ws ck cs := by
  intro p e s m args below meth c A H locs ls F K hA hP hD hS hl
  subst hp
  have hx := F.1
  have hb := F.2.1
  subst hv
  exact lv_irem hx hb hd hne (k p e s m args below meth c A H locs ls F K hA hP hD hS hl)
theorem k_ineg {x v : Int32} (hd : decode μ.2.1 pc = .ok (.ineg, 1)) (hv : -x = v) (k : Ok G μ d mc ms Q pc' lv (.int v :: st) ws ck cs) (hp : pc + 1 = pc' := by rfl) : Ok G μ d mc ms Q pc lv (.int x :: st) ws ck cs := by
  intro p e s m args below meth c A H locs ls F K hA hP hD hS hl
  subst hp
  have hx := F.1
  have hb := F.2.1
  subst hv
  exact lv_ineg hx hb hd (k p e s m args below meth c A H locs ls F K hA hP hD hS hl)
theorem k_ladd {x y v : Int64} (hd : decode μ.2.1 pc = .ok (.ladd, 1)) (hv : x + y = v) (k : Ok G μ d mc ms Q pc' lv (.long v :: st) ws ck cs) (hp : pc + 1 = pc' := by rfl) : Ok G μ d mc ms Q pc lv (.long y :: .long x :: st) ws ck cs := by
  intro p e s m args below meth c A H locs ls F K hA hP hD hS hl
  subst hp
  have hx := F.1
  have hb := F.2.1
  subst hv
  exact lv_ladd hx hb hd (k p e s m args below meth c A H locs ls F K hA hP hD hS hl)
theorem k_lsub {x y v : Int64} (hd : decode μ.2.1 pc = .ok (.lsub, 1)) (hv : x - y = v) (k : Ok G μ d mc ms Q pc' lv (.long v :: st) ws ck cs) (hp : pc + 1 = pc' := by rfl) : Ok G μ d mc ms Q pc lv (.long y :: .long x :: st) ws ck cs := by
  intro p e s m args below meth c A H locs ls F K hA hP hD hS hl
  subst hp
  have hx := F.1
  have hb := F.2.1
  subst hv
  exact lv_lsub hx hb hd (k p e s m args below meth c A H locs ls F K hA hP hD hS hl)
theorem k_lmul {x y v : Int64} (hd : decode μ.2.1 pc = .ok (.lmul, 1)) (hv : x * y = v) (k : Ok G μ d mc ms Q pc' lv (.long v :: st) ws ck cs) (hp : pc + 1 = pc' := by rfl) : Ok G μ d mc ms Q pc lv (.long y :: .long x :: st) ws ck cs := by
  intro p e s m args below meth c A H locs ls F K hA hP hD hS hl
  subst hp
  have hx := F.1
  have hb := F.2.1
  subst hv
  exact lv_lmul hx hb hd (k p e s m args below meth c A H locs ls F K hA hP hD hS hl)
theorem k_lxor {x y v : Int64} (hd : decode μ.2.1 pc = .ok (.lxor, 1)) (hv : x ^^^ y = v) (k : Ok G μ d mc ms Q pc' lv (.long v :: st) ws ck cs) (hp : pc + 1 = pc' := by rfl) : Ok G μ d mc ms Q pc lv (.long y :: .long x :: st) ws ck cs := by
  intro p e s m args below meth c A H locs ls F K hA hP hD hS hl
  subst hp
  have hx := F.1
  have hb := F.2.1
  subst hv
  exact lv_lxor hx hb hd (k p e s m args below meth c A H locs ls F K hA hP hD hS hl)
theorem k_ldiv {x y v : Int64} (hd : decode μ.2.1 pc = .ok (.ldiv, 1)) (hne : ¬ y = 0) (hv : x / y = v) (k : Ok G μ d mc ms Q pc' lv (.long v :: st) ws ck cs) (hp : pc + 1 = pc' := by rfl) : Ok G μ d mc ms Q pc lv (.long y :: .long x :: st) ws ck cs := by
  intro p e s m args below meth c A H locs ls F K hA hP hD hS hl
  subst hp
  have hx := F.1
  have hb := F.2.1
  subst hv
  exact lv_ldiv hx hb hd hne (k p e s m args below meth c A H locs ls F K hA hP hD hS hl)
theorem k_lrem {x y v : Int64} (hd : decode μ.2.1 pc = .ok (.lrem, 1)) (hne : ¬ y = 0) (hv : x - x / y * y = v) (k : Ok G μ d mc ms Q pc' lv (.long v :: st) ws ck cs) (hp : pc + 1 = pc' := by rfl) : Ok G μ d mc ms Q pc lv (.long y :: .long x :: st) ws ck cs := by
  intro p e s m args below meth c A H locs ls F K hA hP hD hS hl
  subst hp
  have hx := F.1
  have hb := F.2.1
  subst hv
  exact lv_lrem hx hb hd hne (k p e s m args below meth c A H locs ls F K hA hP hD hS hl)
theorem k_i2l {x : Int32} {v : Int64} (hd : decode μ.2.1 pc = .ok (.i2l, 1)) (hv : x.toInt64 = v) (k : Ok G μ d mc ms Q pc' lv (.long v :: st) ws ck cs) (hp : pc + 1 = pc' := by rfl) : Ok G μ d mc ms Q pc lv (.int x :: st) ws ck cs := by
  intro p e s m args below meth c A H locs ls F K hA hP hD hS hl
  subst hp
  have hx := F.1
  have hb := F.2.1
  exact lv_i2l hx hb hd hv (k p e s m args below meth c A H locs ls F K hA hP hD hS hl)
theorem k_lcmp {x y : Int64} (hd : decode μ.2.1 pc = .ok (.lcmp, 1))  (k : Ok G μ d mc ms Q pc' lv (.int (lg_cmp x y) :: st) ws ck cs) (hp : pc + 1 = pc' := by rfl) : Ok G μ d mc ms Q pc lv (.long y :: .long x :: st) ws ck cs := by
  intro p e s m args below meth c A H locs ls F K hA hP hD hS hl
  subst hp
  have hx := F.1
  have hb := F.2.1
  exact W.lcmp hx hb hd (k p e s m args below meth c A H locs ls F K hA hP hD hS hl)
theorem k_dup {v : Value} (hd : decode μ.2.1 pc = .ok (.dup, 1)) (hv : v.category = 1) (k : Ok G μ d mc ms Q pc' lv (v :: v :: st) ws ck cs) (hp : pc + 1 = pc' := by rfl) : Ok G μ d mc ms Q pc lv (v :: st) ws ck cs := by
  intro p e s m args below meth c A H locs ls F K hA hP hD hS hl
  subst hp
  have hx := F.1
  have hb := F.2.1
  exact lv_dup hx hb hd hv (k p e s m args below meth c A H locs ls F K hA hP hD hS hl)
theorem k_pop {v : Value} (hd : decode μ.2.1 pc = .ok (.pop, 1)) (hv : v.category = 1) (k : Ok G μ d mc ms Q pc' lv st ws ck cs) (hp : pc + 1 = pc' := by rfl) : Ok G μ d mc ms Q pc lv (v :: st) ws ck cs := by
  intro p e s m args below meth c A H locs ls F K hA hP hD hS hl
  subst hp
  have hx := F.1
  have hb := F.2.1
  exact lv_pop hx hb hd hv (k p e s m args below meth c A H locs ls F K hA hP hD hS hl)
theorem k_dup2 {v w : Value} (hd : decode μ.2.1 pc = .ok (.dup2, 1)) (hv : v.category = 1) (hw : w.category = 1) (k : Ok G μ d mc ms Q pc' lv (v :: w :: v :: w :: st) ws ck cs) (hp : pc + 1 = pc' := by rfl) : Ok G μ d mc ms Q pc lv (v :: w :: st) ws ck cs := by
  intro p e s m args below meth c A H locs ls F K hA hP hD hS hl
  subst hp
  have hx := F.1
  have hb := F.2.1
  exact lv_dup2_11 hx hb hd hv hw (k p e s m args below meth c A H locs ls F K hA hP hD hS hl)
theorem k_if_eq {x : Int32} {off : Int} {tgt : Nat} (hd : decode μ.2.1 pc = .ok (.ifCond .eq off, 3)) (ht : (pc : Int) + off = (tgt : Int)) (kt : x = 0 → Ok G μ d mc ms Q tgt lv st ws ck cs) (kf : ¬ (x = 0) → Ok G μ d mc ms Q pc' lv st ws ck cs) (hp : pc + 3 = pc' := by rfl) : Ok G μ d mc ms Q pc lv (.int x :: st) ws ck cs := by
  intro p e s m args below meth c A H locs ls F K hA hP hD hS hl
  subst hp
  have hx := F.1
  have hb := F.2.1
  exact lv_if_eq hx hb hd ht (fun h => kt h p e s m args below meth c A H locs ls F K hA hP hD hS hl) (fun h => kf h p e s m args below meth c A H locs ls F K hA hP hD hS hl)
theorem k_icmp_eq {x y : Int32} {off : Int} {tgt : Nat} (hd : decode μ.2.1 pc = .ok (.if_icmp .eq off, 3)) (ht : (pc : Int) + off = (tgt : Int)) (kt : x = y → Ok G μ d mc ms Q tgt lv st ws ck cs) (kf : ¬ (x = y) → Ok G μ d mc ms Q pc' lv st ws ck cs) (hp : pc + 3 = pc' := by rfl) : Ok G μ d mc ms Q pc lv (.int y :: .int x :: st) ws ck cs := by
  intro p e s m args below meth c A H locs ls F K hA hP hD hS hl
  subst hp
  have hx := F.1
  have hb := F.2.1
  exact lv_icmp_eq hx hb hd ht (fun h => kt h p e s m args below meth c A H locs ls F K hA hP hD hS hl) (fun h => kf h p e s m args below meth c A H locs ls F K hA hP hD hS hl)
theorem k_if_ne {x : Int32} {off : Int} {tgt : Nat} (hd : decode μ.2.1 pc = .ok (.ifCond .ne off, 3)) (ht : (pc : Int) + off = (tgt : Int)) (kt : ¬ x = 0 → Ok G μ d mc ms Q tgt lv st ws ck cs) (kf : x = 0 → Ok G μ d mc ms Q pc' lv st ws ck cs) (hp : pc + 3 = pc' := by rfl) : Ok G μ d mc ms Q pc lv (.int x :: st) ws ck cs := by
  intro p e s m args below meth c A H locs ls F K hA hP hD hS hl
  subst hp
  have hx := F.1
  have hb := F.2.1
  exact lv_if_ne hx hb hd ht (fun h => kt h p e s m args below meth c A H locs ls F K hA hP hD hS hl) (fun h => kf h p e s m args below meth c A H locs ls F K hA hP hD hS hl)
theorem k_icmp_ne {x y : Int32} {off : Int} {tgt : Nat} (hd : decode μ.2.1 pc = .ok (.if_icmp .ne off, 3)) (ht : (pc : Int) + off = (tgt : Int)) (kt : ¬ x = y → Ok G μ d mc ms Q tgt lv st ws ck cs) (kf : x = y → Ok G μ d mc ms Q pc' lv st ws ck cs) (hp : pc + 3 = pc' := by rfl) : Ok G μ d mc ms Q pc lv (.int y :: .int x :: st) ws ck cs := by
  intro p e s m args below meth c A H locs ls F K hA hP hD hS hl
  subst hp
  have hx := F.1
  have hb := F.2.1
  exact lv_icmp_ne hx hb hd ht (fun h => kt h p e s m args below meth c A H locs ls F K hA hP hD hS hl) (fun h => kf h p e s m args below meth c A H locs ls F K hA hP hD hS hl)
theorem k_if_lt {x : Int32} {off : Int} {tgt : Nat} (hd : decode μ.2.1 pc = .ok (.ifCond .lt off, 3)) (ht : (pc : Int) + off = (tgt : Int)) (kt : x < 0 → Ok G μ d mc ms Q tgt lv st ws ck cs) (kf : ¬ (x < 0) → Ok G μ d mc ms Q pc' lv st ws ck cs) (hp : pc + 3 = pc' := by rfl) : Ok G μ d mc ms Q pc lv (.int x :: st) ws ck cs := by
  intro p e s m args below meth c A H locs ls F K hA hP hD hS hl
  subst hp
  have hx := F.1
  have hb := F.2.1
  exact lv_if_lt hx hb hd ht (fun h => kt h p e s m args below meth c A H locs ls F K hA hP hD hS hl) (fun h => kf h p e s m args below meth c A H locs ls F K hA hP hD hS hl)
theorem k_icmp_lt {x y : Int32} {off : Int} {tgt : Nat} (hd : decode μ.2.1 pc = .ok (.if_icmp .lt off, 3)) (ht : (pc : Int) + off = (tgt : Int)) (kt : x < y → Ok G μ d mc ms Q tgt lv st ws ck cs) (kf : ¬ (x < y) → Ok G μ d mc ms Q pc' lv st ws ck cs) (hp : pc + 3 = pc' := by rfl) : Ok G μ d mc ms Q pc lv (.int y :: .int x :: st) ws ck cs := by
  intro p e s m args below meth c A H locs ls F K hA hP hD hS hl
  subst hp
  have hx := F.1
  have hb := F.2.1
  exact lv_icmp_lt hx hb hd ht (fun h => kt h p e s m args below meth c A H locs ls F K hA hP hD hS hl) (fun h => kf h p e s m args below meth c A H locs ls F K hA hP hD hS hl)
theorem k_if_ge {x : Int32} {off : Int} {tgt : Nat} (hd : decode μ.2.1 pc = .ok (.ifCond .ge off, 3)) (ht : (pc : Int) + off = (tgt : Int)) (kt : 0 ≤ x → Ok G μ d mc ms Q tgt lv st ws ck cs) (kf : ¬ (0 ≤ x) → Ok G μ d mc ms Q pc' lv st ws ck cs) (hp : pc + 3 = pc' := by rfl) : Ok G μ d mc ms Q pc lv (.int x :: st) ws ck cs := by
  intro p e s m args below meth c A H locs ls F K hA hP hD hS hl
  subst hp
  have hx := F.1
  have hb := F.2.1
  exact lv_if_ge hx hb hd ht (fun h => kt h p e s m args below meth c A H locs ls F K hA hP hD hS hl) (fun h => kf h p e s m args below meth c A H locs ls F K hA hP hD hS hl)
theorem k_icmp_ge {x y : Int32} {off : Int} {tgt : Nat} (hd : decode μ.2.1 pc = .ok (.if_icmp .ge off, 3)) (ht : (pc : Int) + off = (tgt : Int)) (kt : y ≤ x → Ok G μ d mc ms Q tgt lv st ws ck cs) (kf : ¬ (y ≤ x) → Ok G μ d mc ms Q pc' lv st ws ck cs) (hp : pc + 3 = pc' := by rfl) : Ok G μ d mc ms Q pc lv (.int y :: .int x :: st) ws ck cs := by
  intro p e s m args below meth c A H locs ls F K hA hP hD hS hl
  subst hp
  have hx := F.1
  have hb := F.2.1
  exact lv_icmp_ge hx hb hd ht (fun h => kt h p e s m args below meth c A H locs ls F K hA hP hD hS hl) (fun h => kf h p e s m args below meth c A H locs ls F K hA hP hD hS hl)
theorem k_if_gt {x : Int32} {off : Int} {tgt : Nat} (hd : decode μ.2.1 pc = .ok (.ifCond .gt off, 3)) (ht : (pc : Int) + off = (tgt : Int)) (kt : 0 < x → Ok G μ d mc ms Q tgt lv st ws ck cs) (kf : ¬ (0 < x) → Ok G μ d mc ms Q pc' lv st ws ck cs) (hp : pc + 3 = pc' := by rfl) : Ok G μ d mc ms Q pc lv (.int x :: st) ws ck cs := by
  intro p e s m args below meth c A H locs ls F K hA hP hD hS hl
  subst hp
  have hx := F.1
  have hb := F.2.1
  exact lv_if_gt hx hb hd ht (fun h => kt h p e s m args below meth c A H locs ls F K hA hP hD hS hl) (fun h => kf h p e s m args below meth c A H locs ls F K hA hP hD hS hl)
theorem k_icmp_gt {x y : Int32} {off : Int} {tgt : Nat} (hd : decode μ.2.1 pc = .ok (.if_icmp .gt off, 3)) (ht : (pc : Int) + off = (tgt : Int)) (kt : y < x → Ok G μ d mc ms Q tgt lv st ws ck cs) (kf : ¬ (y < x) → Ok G μ d mc ms Q pc' lv st ws ck cs) (hp : pc + 3 = pc' := by rfl) : Ok G μ d mc ms Q pc lv (.int y :: .int x :: st) ws ck cs := by
  intro p e s m args below meth c A H locs ls F K hA hP hD hS hl
  subst hp
  have hx := F.1
  have hb := F.2.1
  exact lv_icmp_gt hx hb hd ht (fun h => kt h p e s m args below meth c A H locs ls F K hA hP hD hS hl) (fun h => kf h p e s m args below meth c A H locs ls F K hA hP hD hS hl)
theorem k_if_le {x : Int32} {off : Int} {tgt : Nat} (hd : decode μ.2.1 pc = .ok (.ifCond .le off, 3)) (ht : (pc : Int) + off = (tgt : Int)) (kt : x ≤ 0 → Ok G μ d mc ms Q tgt lv st ws ck cs) (kf : ¬ (x ≤ 0) → Ok G μ d mc ms Q pc' lv st ws ck cs) (hp : pc + 3 = pc' := by rfl) : Ok G μ d mc ms Q pc lv (.int x :: st) ws ck cs := by
  intro p e s m args below meth c A H locs ls F K hA hP hD hS hl
  subst hp
  have hx := F.1
  have hb := F.2.1
  exact lv_if_le hx hb hd ht (fun h => kt h p e s m args below meth c A H locs ls F K hA hP hD hS hl) (fun h => kf h p e s m args below meth c A H locs ls F K hA hP hD hS hl)
theorem k_icmp_le {x y : Int32} {off : Int} {tgt : Nat} (hd : decode μ.2.1 pc = .ok (.if_icmp .le off, 3)) (ht : (pc : Int) + off = (tgt : Int)) (kt : x ≤ y → Ok G μ d mc ms Q tgt lv st ws ck cs) (kf : ¬ (x ≤ y) → Ok G μ d mc ms Q pc' lv st ws ck cs) (hp : pc + 3 = pc' := by rfl) : Ok G μ d mc ms Q pc lv (.int y :: .int x :: st) ws ck cs := by
  intro p e s m args below meth c A H locs ls F K hA hP hD hS hl
  subst hp
  have hx := F.1
  have hb := F.2.1
  exact lv_icmp_le hx hb hd ht (fun h => kt h p e s m args below meth c A H locs ls F K hA hP hD hS hl) (fun h => kf h p e s m args below meth c A H locs ls F K hA hP hD hS hl)
theorem k_goto {off : Int} {tgt : Nat} (hd : decode μ.2.1 pc = .ok (.goto off, 3)) (ht : (pc : Int) + off = (tgt : Int)) (k : Ok G μ d mc ms Q tgt lv st ws ck cs) : Ok G μ d mc ms Q pc lv st ws ck cs := by
  intro p e s m args below meth c A H locs ls F K hA hP hD hS hl
  have hx := F.1
  have hb := F.2.1
  exact lv_goto hx hb hd ht (k p e s m args below meth c A H locs ls F K hA hP hD hS hl)
theorem k_tswOut {dflt lo hi : Int} {offs : Array Int} {len : Nat} {x : Int32} {tgt : Nat} (hd : decode μ.2.1 pc = .ok (.tableswitch dflt lo hi offs, len)) (h : x.toInt < lo ∨ hi < x.toInt) (ht : (pc : Int) + dflt = (tgt : Int)) (k : Ok G μ d mc ms Q tgt lv st ws ck cs) : Ok G μ d mc ms Q pc lv (.int x :: st) ws ck cs := by
  intro p e s m args below meth c A H locs ls F K hA hP hD hS hl
  have hx := F.1
  have hb := F.2.1
  exact lv_tableOut hx hb hd h ht (k p e s m args below meth c A H locs ls F K hA hP hD hS hl)
theorem k_tswIn {dflt lo hi : Int} {offs : Array Int} {len : Nat} {x : Int32} {off : Int} {tgt : Nat} (hd : decode μ.2.1 pc = .ok (.tableswitch dflt lo hi offs, len)) (h1 : ¬ x.toInt < lo) (h2 : ¬ hi < x.toInt) (ho : offs[(x.toInt - lo).toNat]? = some off) (ht : (pc : Int) + off = (tgt : Int)) (k : Ok G μ d mc ms Q tgt lv st ws ck cs) : Ok G μ d mc ms Q pc lv (.int x :: st) ws ck cs := by
  intro p e s m args below meth c A H locs ls F K hA hP hD hS hl
  have hx := F.1
  have hb := F.2.1
  exact lv_tableIn hx hb hd h1 h2 ho ht (k p e s m args below meth c A H locs ls F K hA hP hD hS hl)
theorem k_ireturn {v : Int32} {ty : FieldType} (hd : decode μ.2.1 pc = .ok (.ireturn, 1)) (hr : μ.2.2.2 = some ty) (hn : narrow ty (.int v) = .int v) (hq : Q (some (.int v)) ws) : Ok G μ d mc ms Q pc lv [.int v] ws mc ms := by
  intro p e s m args below meth c A H locs ls F K hA hP hD hS hl
  have hx := F.1
  have hb := F.2.1
  exact W.zret hx hb (F.2.2.1.trans hr) hn (fun t ht hW => ⟨⟨_, ws, rfl, hq, by rw [ht]; exact hP, hD⟩, hS.F ht⟩) hS.2.2 hd F.2.2.2.2.2.2.1
theorem k_lreturn {v : Int64} (hd : decode μ.2.1 pc = .ok (.lreturn, 1)) (hr : μ.2.2.2 = some .long) (hq : Q (some (.long v)) ws) : Ok G μ d mc ms Q pc lv [.long v] ws mc ms := by
  intro p e s m args below meth c A H locs ls F K hA hP hD hS hl
  have hx := F.1
  have hb := F.2.1
  exact W.lret hx hb (F.2.2.1.trans hr) (fun t ht hW => ⟨⟨_, ws, rfl, hq, by rw [ht]; exact hP, hD⟩, hS.F ht⟩) hS.2.2 hd F.2.2.2.2.2.2.1
theorem k_return (hd : decode μ.2.1 pc = .ok (.return_, 1)) (hr : μ.2.2.2 = none) (hq : Q none ws) : Ok G μ d mc ms Q pc lv [] ws mc ms := by
  intro p e s m args below meth c A H locs ls F K hA hP hD hS hl
  have hx := F.1
  have hb := F.2.1
  exact W.vret hx hb (F.2.2.1.trans hr) (fun t ht hW => ⟨⟨_, ws, rfl, hq, by rw [ht]; exact hP, hD⟩, hS.F ht⟩) hS.2.2 hd F.2.2.2.2.2.2.1
theorem k_get {idx ci k N q a : Nat} {C : String} {T : u_T} {ty : Nat → FieldType} {fs : List Value} {v : Value} (hc : ClI ci C T N ty) (hk : k < N) (hf : FL μ.1.cls idx T k) (hd : decode μ.2.1 pc = .ok (.getfield idx, 3)) (hw : ws[q]? = some (a, .inr (ci, fs))) (hv : fs[k]? = some v) (kk : Ok G μ d mc ms Q pc' lv (v :: st) ws ck cs) (hp : pc + 3 = pc' := by rfl) : Ok G μ d mc ms Q pc lv (.ref a :: st) ws ck cs := by
  intro p e s m args below meth c A H locs ls F K hA hP hD hS hl
  subst hp
  have hx := F.1
  have hb := F.2.1
  have kk := kk p e s m args below meth c A H locs ls F K hA hP hD hS hl
  rcases hf with hf | ⟨host, hf⟩
  · exact va_get hx hb F.2.2.2.2.2.1 hc.2.1 F.2.2.2.2.1 K.1 hP q hw hc.1 k hk (F.2.2.2.2.2.1 _ hf) (fun _ h => h) hv hd kk
  · exact va_getN hx hb F.2.2.2.2.2.1 hc.2.1 F.2.2.2.2.1 K.1 hP q hw hc.1 k hk (va_Nw.use rfl (K.2 _ hf)) (fun _ h => h) hv hd kk
theorem k_put {idx ci k N q a : Nat} {C : String} {T : u_T} {ty : Nat → FieldType} {fs : List Value} {v : Value} (hc : ClI ci C T N ty) (hk : k < N) (hf : FL μ.1.cls idx T k) (hd : decode μ.2.1 pc = .ok (.putfield idx, 3)) (hfin : (T k).2.2.2 = false) (hn : narrow (ty k) v = v) (hfit : fits (ty k) v = true) (hw : ws[q]? = some (a, .inr (ci, fs))) (hlen : k < fs.length) (kk : Ok G μ d mc ms Q pc' lv st (ws.set q (a, .inr (ci, fs.set k v))) ck cs) (hp : pc + 3 = pc' := by rfl) : Ok G μ d mc ms Q pc lv (v :: .ref a :: st) ws ck cs := by
  intro p e s m args below meth c A H locs ls F K hA hP hD hS hl
  subst hp
  have hx := F.1
  have hb := F.2.1
  rcases hf with hf | ⟨host, hf⟩
  · exact va_put hx hb F.2.2.2.2.2.1 hc.2.1 ty hc.2.2.1 hc.2.2.2 F.2.2.2.2.1 K.1 hP hD hS q hw hc.1 k hk (F.2.2.2.2.2.1 _ hf) (fun _ h => h) hfin (hc.2.2.1 k hk) hn hfit hlen hd (fun H1 locs1 hP hD hS => kk p e s m args below meth c A H1 locs1 ls F K hA hP hD hS hl)
  · exact va_putN hx hb F.2.2.2.2.2.1 hc.2.1 ty hc.2.2.1 hc.2.2.2 F.2.2.2.2.1 K.1 hP hD hS q hw hc.1 k hk (va_Nw.use rfl (K.2 _ hf)) (fun _ h => h) hfin (hc.2.2.1 k hk) hn hfit hlen hd (fun H1 locs1 hP hD hS => kk p e s m args below meth c A H1 locs1 ls F K hA hP hD hS hl)
theorem k_putF {idx ci k N q a : Nat} {C : String} {T : u_T} {ty : Nat → FieldType} {fs : List Value} {v : Value} (hc : ClI ci C T N ty) (hk : k < N) (hf : Cond.fieldLink μ.1.cls idx (T k).1 (T k).2.1 (T k).2.2.1 ∈ TT) (hd : decode μ.2.1 pc = .ok (.putfield idx, 3)) (hfin : (T k).2.2.2 = true) (hin : μ.1.name = "<init>") (hown : (T k).1 = μ.1.cls) (hn : narrow (ty k) v = v) (hfit : fits (ty k) v = true) (hw : ws[q]? = some (a, .inr (ci, fs))) (hlen : k < fs.length) (kk : Ok G μ d mc ms Q pc' lv st (ws.set q (a, .inr (ci, fs.set k v))) ck cs) (hp : pc + 3 = pc' := by rfl) : Ok G μ d mc ms Q pc lv (v :: .ref a :: st) ws ck cs := by
  intro p e s m args below meth c A H locs ls F K hA hP hD hS hl
  subst hp
  have hx := F.1
  have hb := F.2.1
  exact va_putF hx hb F.2.2.2.2.2.1 hc.2.1 ty hc.2.2.1 hc.2.2.2 F.2.2.2.2.1 K.1 hP hD hS q hw hc.1 k hk (F.2.2.2.2.2.1 _ hf) (fun _ h => h) hfin (F.2.2.2.2.2.2.2.trans hin) hown (hc.2.2.1 k hk) hn hfit hlen hd (fun H1 locs1 hP hD hS => kk p e s m args below meth c A H1 locs1 ls F K hA hP hD hS hl)
theorem k_iald {q a n : Nat} {f : Nat → Int32} {i : Int32} (hd : decode μ.2.1 pc = .ok (.iaload, 1)) (hw : ws[q]? = some (a, .inl (G.2.2.1 0, n, .inl f))) (hin : vp_in i n) (kk : Ok G μ d mc ms Q pc' lv (.int (f i.toNatClampNeg) :: st) ws ck cs) (hp : pc + 1 = pc' := by rfl) : Ok G μ d mc ms Q pc lv (.int i :: .ref a :: st) ws ck cs := by
  intro p e s m args below meth c A H locs ls F K hA hP hD hS hl
  subst hp
  have hx := F.1
  have hb := F.2.1
  exact va_iald hx hb K.1 hP q 0 hw rfl hin hd (kk p e s m args below meth c A H locs ls F K hA hP hD hS hl)
theorem k_lald {q a n : Nat} {f : Nat → Int64} {i : Int32} (hd : decode μ.2.1 pc = .ok (.laload, 1)) (hw : ws[q]? = some (a, .inl (G.2.2.1 1, n, .inr (.inl f)))) (hin : vp_in i n) (kk : Ok G μ d mc ms Q pc' lv (.long (f i.toNatClampNeg) :: st) ws ck cs) (hp : pc + 1 = pc' := by rfl) : Ok G μ d mc ms Q pc lv (.int i :: .ref a :: st) ws ck cs := by
  intro p e s m args below meth c A H locs ls F K hA hP hD hS hl
  subst hp
  have hx := F.1
  have hb := F.2.1
  exact va_lald hx hb K.1 hP q 1 hw rfl hin hd (kk p e s m args below meth c A H locs ls F K hA hP hD hS hl)
theorem k_zald {q a n : Nat} {f : Nat → Int32} {i : Int32} (hd : decode μ.2.1 pc = .ok (.baload, 1)) (hw : ws[q]? = some (a, .inl (G.2.2.1 2, n, .inl f))) (hin : vp_in i n) (kk : Ok G μ d mc ms Q pc' lv (.int (f i.toNatClampNeg) :: st) ws ck cs) (hp : pc + 1 = pc' := by rfl) : Ok G μ d mc ms Q pc lv (.int i :: .ref a :: st) ws ck cs := by
  intro p e s m args below meth c A H locs ls F K hA hP hD hS hl
  subst hp
  have hx := F.1
  have hb := F.2.1
  exact va_zald hx hb K.1 hP q 2 hw rfl hin hd (kk p e s m args below meth c A H locs ls F K hA hP hD hS hl)
theorem k_iast {q a n : Nat} {f : Nat → Int32} {i : Int32} {x : Int32} (hd : decode μ.2.1 pc = .ok (.iastore, 1)) (hw : ws[q]? = some (a, .inl (G.2.2.1 0, n, .inl f))) (hin : vp_in i n) (kk : Ok G μ d mc ms Q pc' lv st (ws.set q (a, .inl (G.2.2.1 0, n, .inl (upd f i.toNatClampNeg x)))) ck cs) (hp : pc + 1 = pc' := by rfl) : Ok G μ d mc ms Q pc lv (.int x :: .int i :: .ref a :: st) ws ck cs := by
  intro p e s m args below meth c A H locs ls F K hA hP hD hS hl
  subst hp
  have hx := F.1
  have hb := F.2.1
  exact va_iast hx hb K.1 hP hD hS q 0 hw rfl hin hd (fun H1 locs1 hP hD hS => kk p e s m args below meth c A H1 locs1 ls F K hA hP hD hS hl)
theorem k_last {q a n : Nat} {f : Nat → Int64} {i : Int32} {x : Int64} (hd : decode μ.2.1 pc = .ok (.lastore, 1)) (hw : ws[q]? = some (a, .inl (G.2.2.1 1, n, .inr (.inl f)))) (hin : vp_in i n) (kk : Ok G μ d mc ms Q pc' lv st (ws.set q (a, .inl (G.2.2.1 1, n, .inr (.inl (vp_updL f i.toNatClampNeg x))))) ck cs) (hp : pc + 1 = pc' := by rfl) : Ok G μ d mc ms Q pc lv (.long x :: .int i :: .ref a :: st) ws ck cs := by
  intro p e s m args below meth c A H locs ls F K hA hP hD hS hl
  subst hp
  have hx := F.1
  have hb := F.2.1
  exact va_last hx hb K.1 hP hD hS q 1 hw rfl hin hd (fun H1 locs1 hP hD hS => kk p e s m args below meth c A H1 locs1 ls F K hA hP hD hS hl)
theorem k_zast {q a n : Nat} {f : Nat → Int32} {i : Int32} {x : Int32} (hd : decode μ.2.1 pc = .ok (.bastore, 1)) (hw : ws[q]? = some (a, .inl (G.2.2.1 2, n, .inl f))) (hin : vp_in i n) (kk : Ok G μ d mc ms Q pc' lv st (ws.set q (a, .inl (G.2.2.1 2, n, .inl (upd f i.toNatClampNeg (vp_nar .boolean x))))) ck cs) (hp : pc + 1 = pc' := by rfl) : Ok G μ d mc ms Q pc lv (.int x :: .int i :: .ref a :: st) ws ck cs := by
  intro p e s m args below meth c A H locs ls F K hA hP hD hS hl
  subst hp
  have hx := F.1
  have hb := F.2.1
  exact va_zast hx hb K.1 hP hD hS q 2 hw rfl hin hd (fun H1 locs1 hP hD hS => kk p e s m args below meth c A H1 locs1 ls F K hA hP hD hS hl)
theorem k_aald {q a n t0 v : Nat} {ty : FieldType} {f : Nat → Option Nat} {i : Int32} (hd : decode μ.2.1 pc = .ok (.aaload, 1)) (ht : (gTys G.2.2.1)[t0]? = some (G.2.2.1 t0, ty)) (hty : ty.isReference = true) (hw : ws[q]? = some (a, .inl (G.2.2.1 t0, n, .inr (.inr (.inr (.inr f)))))) (hin : vp_in i n) (hv : f i.toNatClampNeg = some v) (kk : Ok G μ d mc ms Q pc' lv (.ref v :: st) ws ck cs) (hp : pc + 1 = pc' := by rfl) : Ok G μ d mc ms Q pc lv (.int i :: .ref a :: st) ws ck cs := by
  intro p e s m args below meth c A H locs ls F K hA hP hD hS hl
  subst hp
  have hx := F.1
  have hb := F.2.1
  have hlt : i.toNatClampNeg < n := Nat.not_le.mp fun q => hin (Or.inr q)
  exact W.aald (v := .ref v) hx hb (hP q _ hw) ((K.1.2 t0 _ ht).1 n (fun j => va_rf (f j))) hty (fun q => by cases q) (by show ¬ (i < 0 ∨ (arrV _ _ _).slots.size ≤ _); rw [arrV_size]; exact hin) (by show (arrV _ _ _).slots[_]? = _; rw [arrV_read _ _ hlt, hv]; rfl) rfl rfl hd (kk p e s m args below meth c A H locs ls F K hA hP hD hS hl)
theorem k_alen {q a t0 : Nat} {x : vp_A} {ty : FieldType} (hd : decode μ.2.1 pc = .ok (.arraylength, 1)) (ht : (gTys G.2.2.1)[t0]? = some (G.2.2.1 t0, ty)) (hw : ws[q]? = some (a, .inl (G.2.2.1 t0, x))) (kk : Ok G μ d mc ms Q pc' lv (.int (Int32.ofNat x.1) :: st) ws ck cs) (hp : pc + 1 = pc' := by rfl) : Ok G μ d mc ms Q pc lv (.ref a :: st) ws ck cs := by
  intro p e s m args below meth c A H locs ls F K hA hP hD hS hl
  subst hp
  have hx := F.1
  have hb := F.2.1
  exact va_alen hx hb K.1 hP q t0 hw ht rfl hd (kk p e s m args below meth c A H locs ls F K hA hP hD hS hl)
theorem k_max {idx : Nat} {x y : Int32} (hd : decode μ.2.1 pc = .ok (.invokestatic idx, 3)) (hm : Cond.methodLink μ.1.cls idx Lib.Math.max.name ∈ TT) (hdd : 0 < d) (hr : (st.map fun v => v.category).sum ≤ 8) (hck : ck ≤ mc ∧ cs ≤ ms) (kk : Ok G μ d mc ms Q pc' lv (.int (if x < y then y else x) :: st) ws ck cs) (hp : pc + 3 = pc' := by rfl) : Ok G μ d mc ms Q pc lv (.int y :: .int x :: st) ws ck cs := by
  intro p e s m args below meth c A H locs ls F K hA hP hD hS hl
  subst hp
  have hx := F.1
  have hb := F.2.1
  exact va_mmax (R := gRm d mc ms) hx hb (F.2.2.2.1.trans hl.1.symm) F.2.2.2.2.1 (F.2.2.2.2.2.1 _ hm) (F.2.2.2.2.2.1 _ jm_max.1) (F.2.2.2.2.2.1 _ jm_max.2.1) (F.2.2.2.2.2.1 _ jm_max.2.2) hdd (by show _ ≤ 64 * d; omega) hck.1 hck.2 hd (kk p e s m args below meth c A H locs ls F K hA hP hD hS hl)
theorem k_min {idx : Nat} {x y : Int32} (hd : decode μ.2.1 pc = .ok (.invokestatic idx, 3)) (hm : Cond.methodLink μ.1.cls idx Lib.Math.min.name ∈ TT) (hdd : 0 < d) (hr : (st.map fun v => v.category).sum ≤ 8) (hck : ck ≤ mc ∧ cs ≤ ms) (kk : Ok G μ d mc ms Q pc' lv (.int (if y < x then y else x) :: st) ws ck cs) (hp : pc + 3 = pc' := by rfl) : Ok G μ d mc ms Q pc lv (.int y :: .int x :: st) ws ck cs := by
  intro p e s m args below meth c A H locs ls F K hA hP hD hS hl
  subst hp
  have hx := F.1
  have hb := F.2.1
  exact va_mmin (R := gRm d mc ms) hx hb (F.2.2.2.1.trans hl.1.symm) F.2.2.2.2.1 (F.2.2.2.2.2.1 _ hm) (F.2.2.2.2.2.1 _ jm_min.1) (F.2.2.2.2.2.1 _ jm_min.2.1) (F.2.2.2.2.2.1 _ jm_min.2.2) hdd (by show _ ≤ 64 * d; omega) hck.1 hck.2 hd (kk p e s m args below meth c A H locs ls F K hA hP hD hS hl)
theorem k_abs {idx : Nat} {x : Int32} (hd : decode μ.2.1 pc = .ok (.invokestatic idx, 3)) (hm : Cond.methodLink μ.1.cls idx Lib.Math.abs.name ∈ TT) (hdd : 0 < d) (hr : (st.map fun v => v.category).sum ≤ 8) (hck : ck ≤ mc ∧ cs ≤ ms) (kk : Ok G μ d mc ms Q pc' lv (.int (if 0 ≤ x then x else 0 - x) :: st) ws ck cs) (hp : pc + 3 = pc' := by rfl) : Ok G μ d mc ms Q pc lv (.int x :: st) ws ck cs := by
  intro p e s m args below meth c A H locs ls F K hA hP hD hS hl
  subst hp
  have hx := F.1
  have hb := F.2.1
  exact va_mabs (R := gRm d mc ms) hx hb (F.2.2.2.1.trans hl.1.symm) F.2.2.2.2.1 (F.2.2.2.2.2.1 _ hm) (F.2.2.2.2.2.1 _ jm_abs.1) (F.2.2.2.2.2.1 _ jm_abs.2.1) (F.2.2.2.2.2.1 _ jm_abs.2.2) hdd (by show _ ≤ 64 * d; omega) hck.1 hck.2 hd (kk p e s m args below meth c A H locs ls F K hA hP hD hS hl)
theorem k_maxl {idx : Nat} {x y : Int64} (hd : decode μ.2.1 pc = .ok (.invokestatic idx, 3)) (hm : Cond.methodLink μ.1.cls idx Lib.MathLoose.max_long.x ∈ TT) (hdd : 0 < d) (hr : (st.map fun v => v.category).sum ≤ 8) (hck : ck ≤ mc ∧ cs ≤ ms) (kk : Ok G μ d mc ms Q pc' lv (.long (if y < x then x else y) :: st) ws ck cs) (hp : pc + 3 = pc' := by rfl) : Ok G μ d mc ms Q pc lv (.long y :: .long x :: st) ws ck cs := by
  intro p e s m args below meth c A H locs ls F K hA hP hD hS hl
  subst hp
  have hx := F.1
  have hb := F.2.1
  exact va_mmax_long (R := gRm d mc ms) hx hb (F.2.2.2.1.trans hl.1.symm) F.2.2.2.2.1 (F.2.2.2.2.2.1 _ hm) (F.2.2.2.2.2.1 _ jm_maxl.1) (F.2.2.2.2.2.1 _ jm_maxl.2.1) (F.2.2.2.2.2.1 _ jm_maxl.2.2) hdd (by show _ ≤ 64 * d; omega) hck.1 hck.2 hd (kk p e s m args below meth c A H locs ls F K hA hP hD hS hl)
theorem k_copyi {idx q0 q1 a0 a n0 n1 : Nat} {f g : Nat → Int32} {sp dp n : Int32} (hd : decode μ.2.1 pc = .ok (.invokestatic idx, 3)) (hm : Cond.methodLink μ.1.cls idx arraycopyName ∈ TT) (hdd : 0 < d) (hr : (st.map fun v => v.category).sum ≤ 8) (hw0 : ws[q0]? = some (a0, .inl (G.2.2.1 0, n0, .inl f))) (hw1 : ws[q1]? = some (a, .inl (G.2.2.1 0, n1, .inl g))) (h1 : ¬ sp < 0) (h2 : ¬ dp < 0) (h3 : ¬ n < 0) (h4 : sp.toNatClampNeg + n.toNatClampNeg ≤ n0) (h5 : dp.toNatClampNeg + n.toNatClampNeg ≤ n1) (kk : Ok G μ d mc ms Q pc' lv st (ws.set q1 (a, .inl (G.2.2.1 0, n1, .inl (va_cpy f g sp.toNatClampNeg dp.toNatClampNeg n.toNatClampNeg)))) ck cs) (hp : pc + 3 = pc' := by rfl) : Ok G μ d mc ms Q pc lv (.int n :: .int dp :: .ref a :: .int sp :: .ref a0 :: st) ws ck cs := by
  intro p e s m args below meth c A H locs ls F K hA hP hD hS hl
  subst hp
  have hx := F.1
  have hb := F.2.1
  have hnw : nativeFrameWords "java/lang/System" "arraycopy" 5 + 11 ≤ 56 := by decide +kernel
  exact va_copyi (R := gRm d mc ms) (rest := st) hx hb (F.2.2.2.1.trans hl.1.symm) F.2.2.2.2.1 (F.2.2.2.2.2.1 _ hm) (F.2.2.2.2.2.1 _ jm_copy.1) (F.2.2.2.2.2.1 _ jm_copy.2.1) (F.2.2.2.2.2.1 _ jm_copy.2.2) K.1 hP hD hS q0 q1 0 0 hw0 hw1 rfl rfl rfl h1 h2 h3 h4 h5 (fun _ _ => rfl) hdd (by show _ ≤ 64 * d; omega) hd (fun H1 locs1 hP hD hS => kk p e s m args below meth c A H1 locs1 ls F K hA hP hD hS hl)
theorem k_copyl {idx q0 q1 a0 a n0 n1 : Nat} {f g : Nat → Int64} {sp dp n : Int32} (hd : decode μ.2.1 pc = .ok (.invokestatic idx, 3)) (hm : Cond.methodLink μ.1.cls idx arraycopyName ∈ TT) (hdd : 0 < d) (hr : (st.map fun v => v.category).sum ≤ 8) (hw0 : ws[q0]? = some (a0, .inl (G.2.2.1 1, n0, .inr (.inl f)))) (hw1 : ws[q1]? = some (a, .inl (G.2.2.1 1, n1, .inr (.inl g)))) (h1 : ¬ sp < 0) (h2 : ¬ dp < 0) (h3 : ¬ n < 0) (h4 : sp.toNatClampNeg + n.toNatClampNeg ≤ n0) (h5 : dp.toNatClampNeg + n.toNatClampNeg ≤ n1) (kk : Ok G μ d mc ms Q pc' lv st (ws.set q1 (a, .inl (G.2.2.1 1, n1, .inr (.inl (va_cpy f g sp.toNatClampNeg dp.toNatClampNeg n.toNatClampNeg))))) ck cs) (hp : pc + 3 = pc' := by rfl) : Ok G μ d mc ms Q pc lv (.int n :: .int dp :: .ref a :: .int sp :: .ref a0 :: st) ws ck cs := by
  intro p e s m args below meth c A H locs ls F K hA hP hD hS hl
  subst hp
  have hx := F.1
  have hb := F.2.1
  have hnw : nativeFrameWords "java/lang/System" "arraycopy" 5 + 11 ≤ 56 := by decide +kernel
  exact va_copyl (R := gRm d mc ms) (rest := st) hx hb (F.2.2.2.1.trans hl.1.symm) F.2.2.2.2.1 (F.2.2.2.2.2.1 _ hm) (F.2.2.2.2.2.1 _ jm_copy.1) (F.2.2.2.2.2.1 _ jm_copy.2.1) (F.2.2.2.2.2.1 _ jm_copy.2.2) K.1 hP hD hS q0 q1 1 1 hw0 hw1 rfl rfl rfl h1 h2 h3 h4 h5 (fun _ _ => rfl) hdd (by show _ ≤ 64 * d; omega) hd (fun H1 locs1 hP hD hS => kk p e s m args below meth c A H1 locs1 ls F K hA hP hD hS hl)
end GOK
