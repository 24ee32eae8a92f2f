/-! the loop's state: both objects hold what they should -/
abbrev LpS (p : Program) (e : Env) (s : State) (m : MethodId) (below : List Frame) (meth : Method) (c : Code) (G : GT) (b : Nat) (pc i : Nat) (st : List Value) (σ : Sto) : Prop := LQ p e s m below meth c G b pc [some (.ref b), some (.ref (adr G 0)), some (.ref (adr G 84)), some (.int (nI i))] st (wl G σ) 600000 7302250
section LAWP
variable {p : Program} {e : Env} {s : State} {m : MethodId} {below : List Frame} {meth : Method} {c : Code} {G : GT} {b L : Nat} {xs : Nat → Int32} {pc pc' i : Nat} {st : List Value} {σ : Sto}
theorem q_arg {a : Nat} {na : Int} (C0 : lw_At p s m meth c b L xs) (hL : L ≤ 2048) (h0 : decode code pc = .ok (.aload_n 0, 1)) (h1 : decode code (pc + 1) = .ok (.iload_n 3, 1)) (h2 : decode code (pc + 2) = .ok (.iconst na, 1)) (h3 : decode code (pc + 3) = .ok (.iadd, 1)) (h4 : decode code (pc + 4) = .ok (.iaload, 1)) (hna : Int32.ofInt na = nI a) (hi : i + a < L) (k : LpS p e s m below meth c G b pc' i (.int (xs (i + a)) :: st) σ) (hp : pc + 5 = pc' := by rfl) : LpS p e s m below meth c G b pc i st σ := by
  subst hp
  refine q_aload_n C0 h0 rfl (pc' := pc + 1) ?_
  refine q_iload_n C0 h1 rfl (pc' := pc + 2) ?_
  refine q_iconst (v := nI a) C0 h2 hna (pc' := pc + 3) ?_
  refine q_iadd C0 h3 (nI_add i a) (pc' := pc + 4) ?_
  exact q_sld (pc' := pc + 5) C0 h4 hi hL k
theorem q_call {ν : MI} {index n q ci N d' : Nat} {T : u_T} {ty : Nat → FieldType} {fs : List Value} {Q' : Option Value → Sto → Prop} {As rest : List Value} (C0 : lw_At p s m meth c b L xs) (hK : gKK G s) (hd : decode code pc = .ok (.invokevirtual index, 3)) (hm : Cond.methodLink R_law index ν.1 ∈ TT) (hi : MoI ν n) (hv : MoV ν) (hcl : ClI ci ν.1.cls T N ty) (hL : ν.2.2.1 ≤ 45) (hn : As.length = n) (hst : st = As.reverse ++ .ref (adr G q) :: rest) (hrest : (rest.map fun v => v.category).sum ≤ 8) (hq : q < kW) (hw : σ q = ob ci fs) (hdd : d' ≤ 100) (hC : ConP G ν d' (.ref (adr G q) :: As) σ Q') (kk : ∀ v σ', Q' v σ' → LpS p e s m below meth c G b pc' i (v.toList ++ rest) σ') (hp : pc + 3 = pc' := by rfl) : LpS p e s m below meth c G b pc i st σ := by
  exact q_callV C0 hK hd hm hi hv hcl hC hdd hn hst hrest ((wl_get hq).trans (by rw [hw]; rfl)) hL ⟨by decide, by decide⟩ (fun v ws' h => by obtain ⟨σ', e1, h⟩ := h; subst e1; exact kk v σ' h) hp
theorem RR.o0 (h : RR G σ) : ∃ fs, σ 0 = ob 9 fs := by
  obtain ⟨A, B, C, I, H, T, D, z, a, tb, hX, -⟩ := h
  exact ⟨_, hX.1⟩
end LAWP
