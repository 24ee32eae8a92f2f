/-! the law's loop, by wip/whole/mklaw.py -/
theorem and63 (x : Int32) : ∃ k, k < 64 ∧ x &&& nI 63 = nI k := by
  have h1 : (x &&& nI 63).toBitVec.toNat ≤ 63 := by
    rw [Int32.toBitVec_and, BitVec.toNat_and]
    exact Nat.and_le_right
  refine ⟨(x &&& nI 63).toBitVec.toNat, by omega, ?_⟩
  rw [iEq, nI_e (by omega)]
  show (x &&& nI 63).toBitVec.toInt = _
  rw [BitVec.toInt_eq_toNat_of_lt (by omega)]
section LAW3
variable {p : Program} {e : Env} {s : State} {m : MethodId} {below : List Frame} {meth : Method} {c : Code} {G : GT} {b L : Nat} {xs : Nat → Int32} {i : Nat} {σ : Sto}
theorem law_loop (C0 : lw_At p s m meth c b L xs) (hK : gKK G s) (hL : L ≤ 2048) : ∀ n i σ, L ≤ i + n → i ≤ 4096 → RR G σ → LpS p e s m below meth c G b 18 i [] σ := by
  intro n
  induction n with
  | zero =>
    intro i σ h1 h2 hR
    refine q_iload_n (pc' := 19) C0 dL_law_18 rfl ?_
    refine q_aload_n (pc' := 20) C0 dL_law_19 rfl ?_
    refine q_slen (pc' := 21) C0 dL_law_20 ?_
    refine q_iconst (pc' := 22) (v := nI 4) C0 dL_law_21 rfl ?_
    refine q_isub (pc' := 23) C0 dL_law_22 rfl ?_
    refine q_icmp_gt (pc' := 26) (tgt := 1162) C0 dL_law_23 rfl (fun _ => q_end C0 dL_law_1162 dL_law_1163) (fun h => absurd ?_ h)
    rw [iLt, i_sub_toInt (by rw [nI_e (by omega), nI_e (by omega)]; omega) (by rw [nI_e (by omega), nI_e (by omega)]; omega), nI_e (by omega), nI_e (by omega), nI_e (by omega)]
    omega
  | succ n ih =>
    intro i σ h1 h2 hR
    refine q_iload_n (pc' := 19) C0 dL_law_18 rfl ?_
    refine q_aload_n (pc' := 20) C0 dL_law_19 rfl ?_
    refine q_slen (pc' := 21) C0 dL_law_20 ?_
    refine q_iconst (pc' := 22) (v := nI 4) C0 dL_law_21 rfl ?_
    refine q_isub (pc' := 23) C0 dL_law_22 rfl ?_
    refine q_icmp_gt (pc' := 26) (tgt := 1162) C0 dL_law_23 rfl (fun _ => q_end C0 dL_law_1162 dL_law_1163) (fun h => ?_)
    have hi : i + 4 ≤ L := by
      rw [iLt, i_sub_toInt (by rw [nI_e (by omega), nI_e (by omega)]; omega) (by rw [nI_e (by omega), nI_e (by omega)]; omega), nI_e (by omega), nI_e (by omega), nI_e (by omega)] at h
      omega
    have next : ∀ σ', RR G σ' → LpS p e s m below meth c G b 1156 i [] σ' := by
      intro σ' hR'
      refine q_iinc (pc' := 1159) (v := nI (i + 4)) C0 dL_law_1156 rfl (nI_add i 4) (by decide) rfl ?_
      refine q_goto (tgt := 18) C0 dL_law_1159 rfl ?_
      exact ih (i + 4) σ' (by omega) (by omega) hR'
    refine q_aload_n (pc' := 27) C0 dL_law_26 rfl ?_
    refine q_iload_n (pc' := 28) C0 dL_law_27 rfl ?_
    refine q_sld (pc' := 29) C0 dL_law_28 (by omega) hL ?_
    refine q_bipush (pc' := 31) (v := nI 63) C0 dL_law_29 rfl ?_
    obtain ⟨k, hk, ek⟩ := and63 (xs i)
    refine q_iand (pc' := 32) (v := nI k) C0 dL_law_31 ek ?_
    have hc : k = 0 ∨ k = 1 ∨ k = 2 ∨ k = 3 ∨ k = 4 ∨ k = 5 ∨ k = 6 ∨ k = 7 ∨ k = 8 ∨ k = 9 ∨ k = 10 ∨ k = 11 ∨ k = 12 ∨ k = 13 ∨ k = 14 ∨ k = 15 ∨ k = 16 ∨ k = 17 ∨ k = 18 ∨ k = 19 ∨ k = 20 ∨ k = 21 ∨ k = 22 ∨ k = 23 ∨ k = 24 ∨ k = 25 ∨ k = 26 ∨ k = 27 ∨ k = 28 ∨ k = 29 ∨ k = 30 ∨ k = 31 ∨ k = 32 ∨ k = 33 ∨ k = 34 ∨ 35 ≤ k := by omega
    rcases hc with rfl | rfl | rfl | rfl | rfl | rfl | rfl | rfl | rfl | rfl | rfl | rfl | rfl | rfl | rfl | rfl | rfl | rfl | rfl | rfl | rfl | rfl | rfl | rfl | rfl | rfl | rfl | rfl | rfl | rfl | rfl | rfl | rfl | rfl | rfl | hc
    · exact q_tswIn (tgt := 188) (off := 156) C0 dL_law_32 (by decide) (by decide) rfl rfl (lc_0 C0 hK hL hi hR next)
    · exact q_tswIn (tgt := 211) (off := 179) C0 dL_law_32 (by decide) (by decide) rfl rfl (lc_1 C0 hK hL hi hR next)
    · exact q_tswIn (tgt := 254) (off := 222) C0 dL_law_32 (by decide) (by decide) rfl rfl (lc_2 C0 hK hL hi hR next)
    · exact q_tswIn (tgt := 287) (off := 255) C0 dL_law_32 (by decide) (by decide) rfl rfl (lc_3 C0 hK hL hi hR next)
    · exact q_tswIn (tgt := 320) (off := 288) C0 dL_law_32 (by decide) (by decide) rfl rfl (lc_4 C0 hK hL hi hR next)
    · exact q_tswIn (tgt := 333) (off := 301) C0 dL_law_32 (by decide) (by decide) rfl rfl (lc_5 C0 hK hL hi hR next)
    · exact q_tswIn (tgt := 376) (off := 344) C0 dL_law_32 (by decide) (by decide) rfl rfl (lc_6 C0 hK hL hi hR next)
    · exact q_tswIn (tgt := 389) (off := 357) C0 dL_law_32 (by decide) (by decide) rfl rfl (lc_7 C0 hK hL hi hR next)
    · exact q_tswIn (tgt := 412) (off := 380) C0 dL_law_32 (by decide) (by decide) rfl rfl (lc_8 C0 hK hL hi hR next)
    · exact q_tswIn (tgt := 425) (off := 393) C0 dL_law_32 (by decide) (by decide) rfl rfl (lc_9 C0 hK hL hi hR next)
    · exact q_tswIn (tgt := 448) (off := 416) C0 dL_law_32 (by decide) (by decide) rfl rfl (lc_10 C0 hK hL hi hR next)
    · exact q_tswIn (tgt := 471) (off := 439) C0 dL_law_32 (by decide) (by decide) rfl rfl (lc_11 C0 hK hL hi hR next)
    · exact q_tswIn (tgt := 504) (off := 472) C0 dL_law_32 (by decide) (by decide) rfl rfl (lc_12 C0 hK hL hi hR next)
    · exact q_tswIn (tgt := 547) (off := 515) C0 dL_law_32 (by decide) (by decide) rfl rfl (lc_13 C0 hK hL hi hR next)
    · exact q_tswIn (tgt := 590) (off := 558) C0 dL_law_32 (by decide) (by decide) rfl rfl (lc_14 C0 hK hL hi hR next)
    · exact q_tswIn (tgt := 623) (off := 591) C0 dL_law_32 (by decide) (by decide) rfl rfl (lc_15 C0 hK hL hi hR next)
    · exact q_tswIn (tgt := 647) (off := 615) C0 dL_law_32 (by decide) (by decide) rfl rfl (lc_16 C0 hK hL hi hR next)
    · exact q_tswIn (tgt := 680) (off := 648) C0 dL_law_32 (by decide) (by decide) rfl rfl (lc_17 C0 hK hL hi hR next)
    · exact q_tswIn (tgt := 713) (off := 681) C0 dL_law_32 (by decide) (by decide) rfl rfl (lc_18 C0 hK hL hi hR next)
    · exact q_tswIn (tgt := 746) (off := 714) C0 dL_law_32 (by decide) (by decide) rfl rfl (lc_19 C0 hK hL hi hR next)
    · exact q_tswIn (tgt := 779) (off := 747) C0 dL_law_32 (by decide) (by decide) rfl rfl (lc_20 C0 hK hL hi hR next)
    · exact q_tswIn (tgt := 813) (off := 781) C0 dL_law_32 (by decide) (by decide) rfl rfl (lc_21 C0 hK hL hi hR next)
    · exact q_tswIn (tgt := 846) (off := 814) C0 dL_law_32 (by decide) (by decide) rfl rfl (lc_22 C0 hK hL hi hR next)
    · exact q_tswIn (tgt := 859) (off := 827) C0 dL_law_32 (by decide) (by decide) rfl rfl (lc_23 C0 hK hL hi hR next)
    · exact q_tswIn (tgt := 872) (off := 840) C0 dL_law_32 (by decide) (by decide) rfl rfl (lc_24 C0 hK hL hi hR next)
    · exact q_tswIn (tgt := 895) (off := 863) C0 dL_law_32 (by decide) (by decide) rfl rfl (lc_25 C0 hK hL hi hR next)
    · exact q_tswIn (tgt := 918) (off := 886) C0 dL_law_32 (by decide) (by decide) rfl rfl (lc_26 C0 hK hL hi hR next)
    · exact q_tswIn (tgt := 941) (off := 909) C0 dL_law_32 (by decide) (by decide) rfl rfl (lc_27 C0 hK hL hi hR next)
    · exact q_tswIn (tgt := 974) (off := 942) C0 dL_law_32 (by decide) (by decide) rfl rfl (lc_28 C0 hK hL hi hR next)
    · exact q_tswIn (tgt := 1008) (off := 976) C0 dL_law_32 (by decide) (by decide) rfl rfl (lc_29 C0 hK hL hi hR next)
    · exact q_tswIn (tgt := 1041) (off := 1009) C0 dL_law_32 (by decide) (by decide) rfl rfl (lc_30 C0 hK hL hi hR next)
    · exact q_tswIn (tgt := 1084) (off := 1052) C0 dL_law_32 (by decide) (by decide) rfl rfl (lc_31 C0 hK hL hi hR next)
    · exact q_tswIn (tgt := 1107) (off := 1075) C0 dL_law_32 (by decide) (by decide) rfl rfl (lc_32 C0 hK hL hi hR next)
    · exact q_tswIn (tgt := 1120) (off := 1088) C0 dL_law_32 (by decide) (by decide) rfl rfl (lc_33 C0 hK hL hi hR next)
    · exact q_tswIn (tgt := 1133) (off := 1101) C0 dL_law_32 (by decide) (by decide) rfl rfl (lc_34 C0 hK hL hi hR next)
    · exact q_tswOut (tgt := 1156) C0 dL_law_32 (Or.inr (by rw [nI_e (by omega)]; omega)) rfl (next σ hR)
end LAW3
