def TT : List Cond := lw_tbl.filter goodWord
def isNest : Cond → Bool
  | .fieldLinkNest .. => true
  | .methodLinkNest .. => true
  | .arrayOver (.array _) => true
  | .arrayOver (.object _) => true
  | _ => false
def NN : List Cond := lw_tbl.filter isNest
theorem TT_of {w : Cond} (h : w ∈ lw_tbl) (g : goodWord w = true) : w ∈ TT := List.mem_filter.mpr ⟨h, g⟩
theorem NN_of {w : Cond} (h : w ∈ lw_tbl) (g : isNest w = true) : w ∈ NN := List.mem_filter.mpr ⟨h, g⟩
/-- a field of the class T, place k, linked from own at idx -/
def FL (own : String) (idx : Nat) (T : u_T) (k : Nat) : Prop := Cond.fieldLink own idx (T k).1 (T k).2.1 (T k).2.2.1 ∈ TT ∨ ∃ host, Cond.fieldLinkNest own idx (T k).1 (T k).2.1 (T k).2.2.1 host ∈ NN
def ML (own : String) (idx : Nat) (y : MethodName) : Prop := Cond.methodLink own idx y ∈ TT ∨ ∃ host, Cond.methodLinkNest own idx y host ∈ NN
/-- what a class is known by -/
def ClI (ci : Nat) (C : String) (T : u_T) (N : Nat) (ty : Nat → FieldType) : Prop := vwCl[ci]? = some (C, T, N) ∧ (∀ w ∈ u_ws C T N, w ∈ TT) ∧ (∀ k, k < N → parseFieldDescriptor (T k).2.2.1 = some (ty k)) ∧ (∀ a, a < N → ∀ b, b < N → a ≠ b → (T a).2.1 ≠ (T b).2.1)
/-- what a method is known by: n parameters, inst: an instance method -/
def MoI (ν : MI) (n : Nat) : Prop := Cond.code ν.1 ν.2.1 ν.2.2.1 ν.2.2.2 ∈ TT ∧ Cond.initialized ν.1.cls ∈ TT ∧ (ν.1.cls ≠ "java/lang/invoke/MethodHandle" ∧ ν.1.cls ≠ "java/lang/invoke/VarHandle") ∧ (parseMethodDescriptor ν.1.desc).map (fun d => d.parameters.length) = some n
def MoV (ν : MI) : Prop := Cond.instanceMethod ν.1 ∈ TT ∧ Cond.selects ν.1.cls ν.1 ν.1 ∈ TT
def MoC (ν : MI) : Prop := Cond.instanceMethod ν.1 ∈ TT ∧ ν.1.name = "<init>"
def MoS (ν : MI) : Prop := Cond.static ν.1 ∈ TT
set_option maxRecDepth 20000 in
theorem uw_X0 : ∀ w ∈ u_ws RX0 TX0 3, w ∈ TT := fun w h => TT_of ((goodIn_of (big := lw_tbl) (u_ws RX0 TX0 3) (by decide +kernel)) w h).1 (List.all_eq_true.mp (show (u_ws RX0 TX0 3).all goodWord = true by decide +kernel) w h)
theorem clX0 : ClI 0 RX0 TX0 3 tyX0 := ⟨rfl, uw_X0, tyX0_ok, nmX0⟩
set_option maxRecDepth 20000 in
theorem uw_X1 : ∀ w ∈ u_ws RX1 TX1 4, w ∈ TT := fun w h => TT_of ((goodIn_of (big := lw_tbl) (u_ws RX1 TX1 4) (by decide +kernel)) w h).1 (List.all_eq_true.mp (show (u_ws RX1 TX1 4).all goodWord = true by decide +kernel) w h)
theorem clX1 : ClI 1 RX1 TX1 4 tyX1 := ⟨rfl, uw_X1, tyX1_ok, nmX1⟩
set_option maxRecDepth 20000 in
theorem uw_X2 : ∀ w ∈ u_ws RX2 TX2 2, w ∈ TT := fun w h => TT_of ((goodIn_of (big := lw_tbl) (u_ws RX2 TX2 2) (by decide +kernel)) w h).1 (List.all_eq_true.mp (show (u_ws RX2 TX2 2).all goodWord = true by decide +kernel) w h)
theorem clX2 : ClI 2 RX2 TX2 2 tyX2 := ⟨rfl, uw_X2, tyX2_ok, nmX2⟩
set_option maxRecDepth 20000 in
theorem uw_X3 : ∀ w ∈ u_ws RX3 TX3 5, w ∈ TT := fun w h => TT_of ((goodIn_of (big := lw_tbl) (u_ws RX3 TX3 5) (by decide +kernel)) w h).1 (List.all_eq_true.mp (show (u_ws RX3 TX3 5).all goodWord = true by decide +kernel) w h)
theorem clX3 : ClI 3 RX3 TX3 5 tyX3 := ⟨rfl, uw_X3, tyX3_ok, nmX3⟩
set_option maxRecDepth 20000 in
theorem uw_X4 : ∀ w ∈ u_ws RX4 TX4 2, w ∈ TT := fun w h => TT_of ((goodIn_of (big := lw_tbl) (u_ws RX4 TX4 2) (by decide +kernel)) w h).1 (List.all_eq_true.mp (show (u_ws RX4 TX4 2).all goodWord = true by decide +kernel) w h)
theorem clX4 : ClI 4 RX4 TX4 2 tyX4 := ⟨rfl, uw_X4, tyX4_ok, nmX4⟩
set_option maxRecDepth 20000 in
theorem uw_X5 : ∀ w ∈ u_ws RX5 TX5 5, w ∈ TT := fun w h => TT_of ((goodIn_of (big := lw_tbl) (u_ws RX5 TX5 5) (by decide +kernel)) w h).1 (List.all_eq_true.mp (show (u_ws RX5 TX5 5).all goodWord = true by decide +kernel) w h)
theorem clX5 : ClI 5 RX5 TX5 5 tyX5 := ⟨rfl, uw_X5, tyX5_ok, nmX5⟩
set_option maxRecDepth 20000 in
theorem uw_X6 : ∀ w ∈ u_ws RX6 TX6 2, w ∈ TT := fun w h => TT_of ((goodIn_of (big := lw_tbl) (u_ws RX6 TX6 2) (by decide +kernel)) w h).1 (List.all_eq_true.mp (show (u_ws RX6 TX6 2).all goodWord = true by decide +kernel) w h)
theorem clX6 : ClI 6 RX6 TX6 2 tyX6 := ⟨rfl, uw_X6, tyX6_ok, nmX6⟩
set_option maxRecDepth 20000 in
theorem uw_X7 : ∀ w ∈ u_ws RX7 TX7 3, w ∈ TT := fun w h => TT_of ((goodIn_of (big := lw_tbl) (u_ws RX7 TX7 3) (by decide +kernel)) w h).1 (List.all_eq_true.mp (show (u_ws RX7 TX7 3).all goodWord = true by decide +kernel) w h)
theorem clX7 : ClI 7 RX7 TX7 3 tyX7 := ⟨rfl, uw_X7, tyX7_ok, nmX7⟩
set_option maxRecDepth 20000 in
theorem uw_X8 : ∀ w ∈ u_ws RX8 TX8 8, w ∈ TT := fun w h => TT_of ((goodIn_of (big := lw_tbl) (u_ws RX8 TX8 8) (by decide +kernel)) w h).1 (List.all_eq_true.mp (show (u_ws RX8 TX8 8).all goodWord = true by decide +kernel) w h)
theorem clX8 : ClI 8 RX8 TX8 8 tyX8 := ⟨rfl, uw_X8, tyX8_ok, nmX8⟩
set_option maxRecDepth 20000 in
theorem uw_X9 : ∀ w ∈ u_ws RX9 TX9 13, w ∈ TT := fun w h => TT_of ((goodIn_of (big := lw_tbl) (u_ws RX9 TX9 13) (by decide +kernel)) w h).1 (List.all_eq_true.mp (show (u_ws RX9 TX9 13).all goodWord = true by decide +kernel) w h)
theorem clX9 : ClI 9 RX9 TX9 13 tyX9 := ⟨rfl, uw_X9, tyX9_ok, nmX9⟩
set_option maxRecDepth 20000 in
theorem uw_X10 : ∀ w ∈ u_ws RX10 TX10 32, w ∈ TT := fun w h => TT_of ((goodIn_of (big := lw_tbl) (u_ws RX10 TX10 32) (by decide +kernel)) w h).1 (List.all_eq_true.mp (show (u_ws RX10 TX10 32).all goodWord = true by decide +kernel) w h)
theorem clX10 : ClI 10 RX10 TX10 32 tyX10 := ⟨rfl, uw_X10, tyX10_ok, nmX10⟩
theorem fl_RX0_11 : FL RX0 11 TX0 0 := Or.inl (TT_of (List.mem_of_getElem? (i := 163) (by decide +kernel)) rfl)
theorem fl_RX0_17 : FL RX0 17 TX0 1 := Or.inl (TT_of (List.mem_of_getElem? (i := 164) (by decide +kernel)) rfl)
theorem fl_RX0_21 : FL RX0 21 TX0 2 := Or.inl (TT_of (List.mem_of_getElem? (i := 165) (by decide +kernel)) rfl)
theorem fl_RX1_9 : FL RX1 9 TX1 0 := Or.inl (TT_of (List.mem_of_getElem? (i := 300) (by decide +kernel)) rfl)
theorem fl_RX1_15 : FL RX1 15 TX1 1 := Or.inl (TT_of (List.mem_of_getElem? (i := 302) (by decide +kernel)) rfl)
theorem fl_RX1_18 : FL RX1 18 TX1 2 := Or.inl (TT_of (List.mem_of_getElem? (i := 304) (by decide +kernel)) rfl)
theorem fl_RX1_21 : FL RX1 21 TX1 3 := Or.inl (TT_of (List.mem_of_getElem? (i := 306) (by decide +kernel)) rfl)
theorem fl_RX10_9 : FL RX10 9 TX10 0 := Or.inl (TT_of (List.mem_of_getElem? (i := 822) (by decide +kernel)) rfl)
theorem fl_RX10_15 : FL RX10 15 TX10 1 := Or.inl (TT_of (List.mem_of_getElem? (i := 823) (by decide +kernel)) rfl)
theorem fl_RX10_19 : FL RX10 19 TX10 2 := Or.inl (TT_of (List.mem_of_getElem? (i := 824) (by decide +kernel)) rfl)
theorem fl_RX10_22 : FL RX10 22 TX10 3 := Or.inl (TT_of (List.mem_of_getElem? (i := 825) (by decide +kernel)) rfl)
theorem fl_RX10_25 : FL RX10 25 TX10 5 := Or.inl (TT_of (List.mem_of_getElem? (i := 827) (by decide +kernel)) rfl)
theorem fl_RX10_28 : FL RX10 28 TX10 6 := Or.inl (TT_of (List.mem_of_getElem? (i := 828) (by decide +kernel)) rfl)
theorem fl_RX10_31 : FL RX10 31 TX10 7 := Or.inl (TT_of (List.mem_of_getElem? (i := 829) (by decide +kernel)) rfl)
theorem fl_RX10_34 : FL RX10 34 TX10 9 := Or.inl (TT_of (List.mem_of_getElem? (i := 831) (by decide +kernel)) rfl)
theorem fl_RX10_37 : FL RX10 37 TX10 10 := Or.inl (TT_of (List.mem_of_getElem? (i := 832) (by decide +kernel)) rfl)
theorem fl_RX10_40 : FL RX10 40 TX10 11 := Or.inl (TT_of (List.mem_of_getElem? (i := 833) (by decide +kernel)) rfl)
theorem fl_RX10_43 : FL RX10 43 TX10 14 := Or.inl (TT_of (List.mem_of_getElem? (i := 836) (by decide +kernel)) rfl)
theorem fl_RX10_46 : FL RX10 46 TX10 15 := Or.inl (TT_of (List.mem_of_getElem? (i := 837) (by decide +kernel)) rfl)
theorem fl_RX10_49 : FL RX10 49 TX10 16 := Or.inl (TT_of (List.mem_of_getElem? (i := 838) (by decide +kernel)) rfl)
theorem fl_RX10_52 : FL RX10 52 TX10 17 := Or.inl (TT_of (List.mem_of_getElem? (i := 839) (by decide +kernel)) rfl)
theorem fl_RX10_55 : FL RX10 55 TX10 19 := Or.inl (TT_of (List.mem_of_getElem? (i := 841) (by decide +kernel)) rfl)
theorem fl_RX10_58 : FL RX10 58 TX10 20 := Or.inl (TT_of (List.mem_of_getElem? (i := 842) (by decide +kernel)) rfl)
theorem fl_RX10_62 : FL RX10 62 TX10 21 := Or.inl (TT_of (List.mem_of_getElem? (i := 843) (by decide +kernel)) rfl)
theorem fl_RX10_65 : FL RX10 65 TX10 22 := Or.inl (TT_of (List.mem_of_getElem? (i := 844) (by decide +kernel)) rfl)
theorem fl_RX10_68 : FL RX10 68 TX10 29 := Or.inl (TT_of (List.mem_of_getElem? (i := 851) (by decide +kernel)) rfl)
theorem fl_RX10_71 : FL RX10 71 TX10 30 := Or.inl (TT_of (List.mem_of_getElem? (i := 852) (by decide +kernel)) rfl)
theorem fl_RX10_74 : FL RX10 74 TX10 8 := Or.inl (TT_of (List.mem_of_getElem? (i := 830) (by decide +kernel)) rfl)
theorem fl_RX10_93 : FL RX10 93 TX10 18 := Or.inl (TT_of (List.mem_of_getElem? (i := 840) (by decide +kernel)) rfl)
theorem fl_RX10_100 : FL RX10 100 TX10 4 := Or.inl (TT_of (List.mem_of_getElem? (i := 826) (by decide +kernel)) rfl)
theorem fl_RX10_213 : FL RX10 213 TX10 23 := Or.inl (TT_of (List.mem_of_getElem? (i := 845) (by decide +kernel)) rfl)
theorem fl_RX10_216 : FL RX10 216 TX10 24 := Or.inl (TT_of (List.mem_of_getElem? (i := 846) (by decide +kernel)) rfl)
theorem fl_RX10_219 : FL RX10 219 TX10 25 := Or.inl (TT_of (List.mem_of_getElem? (i := 847) (by decide +kernel)) rfl)
theorem fl_RX10_236 : FL RX10 236 TX10 26 := Or.inl (TT_of (List.mem_of_getElem? (i := 848) (by decide +kernel)) rfl)
theorem fl_RX10_239 : FL RX10 239 TX10 27 := Or.inl (TT_of (List.mem_of_getElem? (i := 849) (by decide +kernel)) rfl)
theorem fl_RX10_242 : FL RX10 242 TX10 28 := Or.inl (TT_of (List.mem_of_getElem? (i := 850) (by decide +kernel)) rfl)
theorem fl_RX10_262 : FL RX10 262 TX10 31 := Or.inl (TT_of (List.mem_of_getElem? (i := 853) (by decide +kernel)) rfl)
theorem fl_RX10_274 : FL RX10 274 TX10 12 := Or.inl (TT_of (List.mem_of_getElem? (i := 834) (by decide +kernel)) rfl)
theorem fl_RX10_277 : FL RX10 277 TX10 13 := Or.inl (TT_of (List.mem_of_getElem? (i := 835) (by decide +kernel)) rfl)
theorem fl_RX2_9 : FL RX2 9 TX2 0 := Or.inl (TT_of (List.mem_of_getElem? (i := 145) (by decide +kernel)) rfl)
theorem fl_RX2_15 : FL RX2 15 TX2 1 := Or.inl (TT_of (List.mem_of_getElem? (i := 147) (by decide +kernel)) rfl)
theorem fl_RX3_11 : FL RX3 11 TX3 0 := Or.inl (TT_of (List.mem_of_getElem? (i := 276) (by decide +kernel)) rfl)
theorem fl_RX3_16 : FL RX3 16 TX3 1 := Or.inl (TT_of (List.mem_of_getElem? (i := 277) (by decide +kernel)) rfl)
theorem fl_RX3_20 : FL RX3 20 TX3 2 := Or.inl (TT_of (List.mem_of_getElem? (i := 278) (by decide +kernel)) rfl)
theorem fl_RX3_24 : FL RX3 24 TX3 3 := Or.inl (TT_of (List.mem_of_getElem? (i := 279) (by decide +kernel)) rfl)
theorem fl_RX3_28 : FL RX3 28 TX3 4 := Or.inl (TT_of (List.mem_of_getElem? (i := 280) (by decide +kernel)) rfl)
theorem fl_RX4_9 : FL RX4 9 TX4 0 := Or.inl (TT_of (List.mem_of_getElem? (i := 199) (by decide +kernel)) rfl)
theorem fl_RX4_15 : FL RX4 15 TX4 1 := Or.inl (TT_of (List.mem_of_getElem? (i := 201) (by decide +kernel)) rfl)
theorem fl_RX4_19 : FL RX4 19 TX6 0 := Or.inr ⟨"CutDistances", NN_of (List.mem_of_getElem? (i := 126) (by decide +kernel)) rfl⟩
theorem fl_RX5_9 : FL RX5 9 TX5 0 := Or.inl (TT_of (List.mem_of_getElem? (i := 251) (by decide +kernel)) rfl)
theorem fl_RX5_15 : FL RX5 15 TX5 1 := Or.inl (TT_of (List.mem_of_getElem? (i := 253) (by decide +kernel)) rfl)
theorem fl_RX5_18 : FL RX5 18 TX5 2 := Or.inl (TT_of (List.mem_of_getElem? (i := 254) (by decide +kernel)) rfl)
theorem fl_RX5_21 : FL RX5 21 TX5 3 := Or.inl (TT_of (List.mem_of_getElem? (i := 255) (by decide +kernel)) rfl)
theorem fl_RX5_25 : FL RX5 25 TX5 4 := Or.inl (TT_of (List.mem_of_getElem? (i := 256) (by decide +kernel)) rfl)
theorem fl_RX5_53 : FL RX5 53 TX6 1 := Or.inr ⟨"CutDistances", NN_of (List.mem_of_getElem? (i := 132) (by decide +kernel)) rfl⟩
theorem fl_RX6_9 : FL RX6 9 TX6 0 := Or.inl (TT_of (List.mem_of_getElem? (i := 125) (by decide +kernel)) rfl)
theorem fl_RX6_15 : FL RX6 15 TX6 1 := Or.inl (TT_of (List.mem_of_getElem? (i := 129) (by decide +kernel)) rfl)
theorem fl_RX7_9 : FL RX7 9 TX7 0 := Or.inl (TT_of (List.mem_of_getElem? (i := 182) (by decide +kernel)) rfl)
theorem fl_RX7_15 : FL RX7 15 TX7 1 := Or.inl (TT_of (List.mem_of_getElem? (i := 183) (by decide +kernel)) rfl)
theorem fl_RX7_19 : FL RX7 19 TX7 2 := Or.inl (TT_of (List.mem_of_getElem? (i := 185) (by decide +kernel)) rfl)
theorem fl_RX7_35 : FL RX7 35 TX6 1 := Or.inr ⟨"CutDistances", NN_of (List.mem_of_getElem? (i := 131) (by decide +kernel)) rfl⟩
theorem fl_RX8_12 : FL RX8 12 TX8 0 := Or.inl (TT_of (List.mem_of_getElem? (i := 218) (by decide +kernel)) rfl)
theorem fl_RX8_18 : FL RX8 18 TX8 1 := Or.inl (TT_of (List.mem_of_getElem? (i := 219) (by decide +kernel)) rfl)
theorem fl_RX8_22 : FL RX8 22 TX8 2 := Or.inl (TT_of (List.mem_of_getElem? (i := 221) (by decide +kernel)) rfl)
theorem fl_RX8_26 : FL RX8 26 TX8 3 := Or.inl (TT_of (List.mem_of_getElem? (i := 222) (by decide +kernel)) rfl)
theorem fl_RX8_29 : FL RX8 29 TX8 4 := Or.inl (TT_of (List.mem_of_getElem? (i := 223) (by decide +kernel)) rfl)
theorem fl_RX8_33 : FL RX8 33 TX8 5 := Or.inl (TT_of (List.mem_of_getElem? (i := 225) (by decide +kernel)) rfl)
theorem fl_RX8_36 : FL RX8 36 TX8 6 := Or.inl (TT_of (List.mem_of_getElem? (i := 226) (by decide +kernel)) rfl)
theorem fl_RX8_41 : FL RX8 41 TX8 7 := Or.inl (TT_of (List.mem_of_getElem? (i := 227) (by decide +kernel)) rfl)
theorem fl_RX8_48 : FL RX8 48 TX6 0 := Or.inr ⟨"CutDistances", NN_of (List.mem_of_getElem? (i := 127) (by decide +kernel)) rfl⟩
theorem fl_RX9_12 : FL RX9 12 TX9 0 := Or.inl (TT_of (List.mem_of_getElem? (i := 317) (by decide +kernel)) rfl)
theorem fl_RX9_18 : FL RX9 18 TX9 1 := Or.inl (TT_of (List.mem_of_getElem? (i := 318) (by decide +kernel)) rfl)
theorem fl_RX9_24 : FL RX9 24 TX9 2 := Or.inl (TT_of (List.mem_of_getElem? (i := 319) (by decide +kernel)) rfl)
theorem fl_RX9_31 : FL RX9 31 TX9 3 := Or.inl (TT_of (List.mem_of_getElem? (i := 320) (by decide +kernel)) rfl)
theorem fl_RX9_35 : FL RX9 35 TX9 4 := Or.inl (TT_of (List.mem_of_getElem? (i := 321) (by decide +kernel)) rfl)
theorem fl_RX9_38 : FL RX9 38 TX9 5 := Or.inl (TT_of (List.mem_of_getElem? (i := 322) (by decide +kernel)) rfl)
theorem fl_RX9_41 : FL RX9 41 TX9 6 := Or.inl (TT_of (List.mem_of_getElem? (i := 323) (by decide +kernel)) rfl)
theorem fl_RX9_47 : FL RX9 47 TX9 7 := Or.inl (TT_of (List.mem_of_getElem? (i := 324) (by decide +kernel)) rfl)
theorem fl_RX9_54 : FL RX9 54 TX9 8 := Or.inl (TT_of (List.mem_of_getElem? (i := 325) (by decide +kernel)) rfl)
theorem fl_RX9_61 : FL RX9 61 TX9 9 := Or.inl (TT_of (List.mem_of_getElem? (i := 326) (by decide +kernel)) rfl)
theorem fl_RX9_68 : FL RX9 68 TX9 10 := Or.inl (TT_of (List.mem_of_getElem? (i := 327) (by decide +kernel)) rfl)
theorem fl_RX9_75 : FL RX9 75 TX9 11 := Or.inl (TT_of (List.mem_of_getElem? (i := 328) (by decide +kernel)) rfl)
theorem fl_RX9_82 : FL RX9 82 TX9 12 := Or.inl (TT_of (List.mem_of_getElem? (i := 329) (by decide +kernel)) rfl)
theorem fl_RX9_87 : FL RX9 87 TX6 0 := Or.inr ⟨"CutDistances", NN_of (List.mem_of_getElem? (i := 128) (by decide +kernel)) rfl⟩
theorem fl_RX9_113 : FL RX9 113 TX6 1 := Or.inr ⟨"CutDistances", NN_of (List.mem_of_getElem? (i := 130) (by decide +kernel)) rfl⟩
theorem fl_RX9_144 : FL RX9 144 TX2 0 := Or.inr ⟨"CutDistances", NN_of (List.mem_of_getElem? (i := 146) (by decide +kernel)) rfl⟩
theorem fl_RX9_147 : FL RX9 147 TX2 1 := Or.inr ⟨"CutDistances", NN_of (List.mem_of_getElem? (i := 148) (by decide +kernel)) rfl⟩
theorem fl_RX9_153 : FL RX9 153 TX0 2 := Or.inr ⟨"CutDistances", NN_of (List.mem_of_getElem? (i := 166) (by decide +kernel)) rfl⟩
theorem fl_RX9_191 : FL RX9 191 TX8 1 := Or.inr ⟨"CutDistances", NN_of (List.mem_of_getElem? (i := 220) (by decide +kernel)) rfl⟩
theorem fl_RX9_203 : FL RX9 203 TX8 4 := Or.inr ⟨"CutDistances", NN_of (List.mem_of_getElem? (i := 224) (by decide +kernel)) rfl⟩
theorem fl_RX9_222 : FL RX9 222 TX1 3 := Or.inr ⟨"CutDistances", NN_of (List.mem_of_getElem? (i := 307) (by decide +kernel)) rfl⟩
theorem fl_RX9_255 : FL RX9 255 TX3 4 := Or.inr ⟨"CutDistances", NN_of (List.mem_of_getElem? (i := 281) (by decide +kernel)) rfl⟩
theorem fl_RX9_265 : FL RX9 265 TX5 0 := Or.inr ⟨"CutDistances", NN_of (List.mem_of_getElem? (i := 252) (by decide +kernel)) rfl⟩
theorem fl_RX9_283 : FL RX9 283 TX7 1 := Or.inr ⟨"CutDistances", NN_of (List.mem_of_getElem? (i := 184) (by decide +kernel)) rfl⟩
theorem fl_RX9_293 : FL RX9 293 TX4 1 := Or.inr ⟨"CutDistances", NN_of (List.mem_of_getElem? (i := 202) (by decide +kernel)) rfl⟩
theorem fl_RX9_294 : FL RX9 294 TX4 0 := Or.inr ⟨"CutDistances", NN_of (List.mem_of_getElem? (i := 200) (by decide +kernel)) rfl⟩
theorem fl_RX9_297 : FL RX9 297 TX1 0 := Or.inr ⟨"CutDistances", NN_of (List.mem_of_getElem? (i := 301) (by decide +kernel)) rfl⟩
theorem fl_RX9_301 : FL RX9 301 TX1 1 := Or.inr ⟨"CutDistances", NN_of (List.mem_of_getElem? (i := 303) (by decide +kernel)) rfl⟩
theorem fl_RX9_310 : FL RX9 310 TX1 2 := Or.inr ⟨"CutDistances", NN_of (List.mem_of_getElem? (i := 305) (by decide +kernel)) rfl⟩
