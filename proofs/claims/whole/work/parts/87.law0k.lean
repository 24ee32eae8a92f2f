/-! the law's entry, by wip/whole/mkstart.py -/
theorem arrV_c {c : ClassId} {n : Nat} {f f' : Nat → Value} (h : ∀ j, j < n → f j = f' j) : arrV c n f = arrV c n f' := by
  unfold arrV
  have e : (fun j : Fin n => f j.val) = fun j : Fin n => f' j.val := funext fun j => h j.val j.isLt
  rw [e]
/-- what is known of classes and rows at the entry -/
theorem law_known {p : Program} {s : State} {m : MethodId} {meth : Method} {c : Code} {b L : Nat} {xs : Nat → Int32} (C0 : lw_At p s m meth c b L xs) : ∃ (D : va_G) (g : Nat → ClassId), va_K D vwCl (gTys g) s ∧ ∀ w ∈ NN, va_Nw w s := by
  have hlw : ∀ w ∈ lw_tbl, w.before #[Value.ref b] s = true := C0.2.2.2.2.2.1
  have hts : ∀ w ∈ TT, w.before #[Value.ref b] s = true := fun w hw => hlw w (List.mem_filter.mp hw).1
  obtain ⟨c0, i0, n0⟩ := u_known (C := RX0) (T := TX0) (N := 3) (n := 3) hts uw_X0 (hlw (.instantiable RX0 3) (List.mem_of_getElem? (i := 155) (by decide +kernel)))
  obtain ⟨c1, i1, n1⟩ := u_known (C := RX1) (T := TX1) (N := 4) (n := 4) hts uw_X1 (hlw (.instantiable RX1 4) (List.mem_of_getElem? (i := 295) (by decide +kernel)))
  obtain ⟨c2, i2, n2⟩ := u_known (C := RX2) (T := TX2) (N := 2) (n := 2) hts uw_X2 (hlw (.instantiable RX2 2) (List.mem_of_getElem? (i := 140) (by decide +kernel)))
  obtain ⟨c3, i3, n3⟩ := u_known (C := RX3) (T := TX3) (N := 5) (n := 5) hts uw_X3 (hlw (.instantiable RX3 5) (List.mem_of_getElem? (i := 269) (by decide +kernel)))
  obtain ⟨c4, i4, n4⟩ := u_known (C := RX4) (T := TX4) (N := 2) (n := 2) hts uw_X4 (hlw (.instantiable RX4 2) (List.mem_of_getElem? (i := 194) (by decide +kernel)))
  obtain ⟨c5, i5, n5⟩ := u_known (C := RX5) (T := TX5) (N := 5) (n := 5) hts uw_X5 (hlw (.instantiable RX5 5) (List.mem_of_getElem? (i := 246) (by decide +kernel)))
  obtain ⟨c6, i6, n6⟩ := u_known (C := RX6) (T := TX6) (N := 2) (n := 2) hts uw_X6 (hlw (.instantiable RX6 2) (List.mem_of_getElem? (i := 120) (by decide +kernel)))
  obtain ⟨c7, i7, n7⟩ := u_known (C := RX7) (T := TX7) (N := 3) (n := 3) hts uw_X7 (hlw (.instantiable RX7 3) (List.mem_of_getElem? (i := 177) (by decide +kernel)))
  obtain ⟨c8, i8, n8⟩ := u_known (C := RX8) (T := TX8) (N := 8) (n := 8) hts uw_X8 (hlw (.instantiable RX8 8) (List.mem_of_getElem? (i := 209) (by decide +kernel)))
  obtain ⟨c9, i9, n9⟩ := u_known (C := RX9) (T := TX9) (N := 13) (n := 13) hts uw_X9 (hlw (.instantiable RX9 13) (List.mem_of_getElem? (i := 112) (by decide +kernel)))
  obtain ⟨c10, i10, n10⟩ := u_known (C := RX10) (T := TX10) (N := 32) (n := 32) hts uw_X10 (hlw (.instantiable RX10 32) (List.mem_of_getElem? (i := 817) (by decide +kernel)))
  obtain ⟨g0, kA0, cm0, e0, f0, h0⟩ := Cond.arrayClass_spec (hlw (.arrayClass .int) (List.mem_of_getElem? (i := 138) (by decide +kernel)))
  obtain ⟨g1, kA1, cm1, e1, f1, h1⟩ := Cond.arrayClass_spec (hlw (.arrayClass .long) (List.mem_of_getElem? (i := 293) (by decide +kernel)))
  obtain ⟨g2, kA2, cm2, e2, f2, h2⟩ := Cond.arrayClass_spec (hlw (.arrayClass .boolean) (List.mem_of_getElem? (i := 294) (by decide +kernel)))
  obtain ⟨cm3, g3, kA3, e3, -, f3, h3, nm3⟩ := Cond.arrayOver_spec (hlw (.arrayOver (.object RX6)) (List.mem_of_getElem? (i := 161) (by decide +kernel)))
  obtain ⟨cm4, g4, kA4, e4, -, f4, h4, nm4⟩ := Cond.arrayOver_spec (hlw (.arrayOver (.object RX1)) (List.mem_of_getElem? (i := 175) (by decide +kernel)))
  obtain ⟨cm5, g5, kA5, e5, -, f5, h5, nm5⟩ := arrayOverA_spec (hlw (.arrayOver (.array .int)) (List.mem_of_getElem? (i := 217) (by decide +kernel)))
  obtain ⟨cm6, g6, kA6, e6, -, f6, h6, nm6⟩ := arrayOverA_spec (hlw (.arrayOver (.array .long)) (List.mem_of_getElem? (i := 275) (by decide +kernel)))
  refine ⟨(fun k => match k with | 0 => c0 | 1 => c1 | 2 => c2 | 3 => c3 | 4 => c4 | 5 => c5 | 6 => c6 | 7 => c7 | 8 => c8 | 9 => c9 | _ => c10, fun k => match k with | 0 => i0 | 1 => i1 | 2 => i2 | 3 => i3 | 4 => i4 | 5 => i5 | 6 => i6 | 7 => i7 | 8 => i8 | 9 => i9 | _ => i10), fun k => match k with | 0 => g0 | 1 => g1 | 2 => g2 | 3 => g3 | 4 => g4 | 5 => g5 | _ => g6, ⟨fun k q hq => ?_, fun k q hq => ?_⟩, fun w hw => ?_⟩
  · match k, hq with
    | 0, hq => cases hq; exact n0
    | 1, hq => cases hq; exact n1
    | 2, hq => cases hq; exact n2
    | 3, hq => cases hq; exact n3
    | 4, hq => cases hq; exact n4
    | 5, hq => cases hq; exact n5
    | 6, hq => cases hq; exact n6
    | 7, hq => cases hq; exact n7
    | 8, hq => cases hq; exact n8
    | 9, hq => cases hq; exact n9
    | 10, hq => cases hq; exact n10
    | k + 11, hq => simp [vwCl] at hq
  · match k, hq with
    | 0, hq => cases hq; exact ⟨fun N z => ⟨(fun k h => by cases h), kA0, f0, cm0, h0⟩, e0⟩
    | 1, hq => cases hq; exact ⟨fun N z => ⟨(fun k h => by cases h), kA1, f1, cm1, h1⟩, e1⟩
    | 2, hq => cases hq; exact ⟨fun N z => ⟨(fun k h => by cases h), kA2, f2, cm2, h2⟩, e2⟩
    | 3, hq => cases hq; exact ⟨fun N z => ⟨(fun k h => by cases h), kA3, f3, cm3, h3⟩, kA3, cm3, f3, h3, e3, nm3⟩
    | 4, hq => cases hq; exact ⟨fun N z => ⟨(fun k h => by cases h), kA4, f4, cm4, h4⟩, kA4, cm4, f4, h4, e4, nm4⟩
    | 5, hq => cases hq; exact ⟨fun N z => ⟨(fun k h => by cases h), kA5, f5, cm5, h5⟩, nm5⟩
    | 6, hq => cases hq; exact ⟨fun N z => ⟨(fun k h => by cases h), kA6, f6, cm6, h6⟩, nm6⟩
    | k + 7, hq => simp [gTys] at hq
  · have h1 := hlw w (List.mem_filter.mp hw).1
    have h2 := (List.mem_filter.mp hw).2
    cases w with
    | fieldLinkNest a i b n d z => exact va_tabs (u := s) (U := s) rfl rfl h1
    | methodLinkNest a i y z => exact va_tabs (u := s) (U := s) rfl rfl h1
    | arrayOver t => cases t with
      | array t => exact over_moved (u := s) (E := s) (Vm.Alike.refl s.vm) h1
      | object C => exact va_AO.of h1
      | _ => simp [isNest] at h2
    | _ => simp [isNest] at h2
/-! the world behind both constructors, by places -/
def posW (q : Nat) : Nat := if q < 32 then q else if q < 44 then q + 40 else if q < 84 then q - 12 else q
theorem posW_lt : ∀ q, q < 104 → posW q < 104 := by decide +kernel
theorem posW_inj : ∀ q, q < 104 → ∀ r, r < 104 → posW q = posW r → q = r := by decide +kernel
def eqC (x y : va_E) : Prop := x = y ∨ ∃ c n f f', x = .inl (c, n, .inr (.inr (.inr (.inr f)))) ∧ y = .inl (c, n, .inr (.inr (.inr (.inr f')))) ∧ ∀ j, j < n → f j = f' j
theorem eqC.at {D : va_G} {cl : List vw_C} {H : Heap} {a : Nat} {x y : va_E} (h : eqC x y) (hx : va_at D cl (a, x) H) : va_at D cl (a, y) H := by
  rcases h with rfl | ⟨c, n, f, f', rfl, rfl, e⟩
  · exact hx
  · show H[a]? = some (vp_cell c (n, .inr (.inr (.inr (.inr f')))))
    have h1 : H[a]? = some (vp_cell c (n, .inr (.inr (.inr (.inr f))))) := hx
    rw [h1, vp_cell_q, vp_cell_q, arrV_c (fun j hj => by rw [e j hj])]
theorem world_by {D : va_G} {cl : List vw_C} {A : Nat → Prop} {H : Heap} {W : va_W} {G : GT} {σ : Sto} (hlen : W.length = 104) (hc : ∀ q, q < 104 → ∃ x, W[posW q]? = some (adr G q, x) ∧ eqC x (σ q)) (hP : va_P D cl W H) (hD : va_D A W) : va_P D cl (wl G σ) H ∧ va_D A (wl G σ) := by
  have get : ∀ k y, (wl G σ)[k]? = some y → k < 104 ∧ y = (adr G k, σ k) := by
    intro k y h
    have hk : k < 104 := by
      have := (List.getElem?_eq_some_iff.mp h).1
      unfold wl at this
      rw [List.length_map, List.length_range] at this
      exact this
    rw [wl_get (show k < kW from hk)] at h
    exact ⟨hk, (Option.some.inj h).symm⟩
  refine ⟨fun k y h => ?_, fun i j x y hi hj e => ?_, fun k y h => ?_⟩
  · obtain ⟨hk, rfl⟩ := get k y h
    obtain ⟨x, h1, h2⟩ := hc k hk
    exact h2.at (hP _ _ h1)
  · obtain ⟨hk, rfl⟩ := get i x hi
    obtain ⟨hk2, rfl⟩ := get j y hj
    obtain ⟨u, h1, -⟩ := hc i hk
    obtain ⟨v, h2, -⟩ := hc j hk2
    exact posW_inj i hk j hk2 (hD.1 _ _ _ _ h1 h2 e)
  · obtain ⟨hk, rfl⟩ := get k y h
    obtain ⟨x, h1, -⟩ := hc k hk
    have h3 := hD.2 _ _ h1
    exact h3
