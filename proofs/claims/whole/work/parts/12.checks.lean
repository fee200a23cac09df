def lw_good : List Cond := lw_tbl.filter goodWord
def fldW (x : Nat × Nat × Nat × Nat × Nat) : Cond := .fieldLink (cnm x.1) x.2.1 (cnm x.2.2.1) (FF x.2.2.1 x.2.2.2.1).2.1 (FF x.2.2.1 x.2.2.2.1).2.2.1
def fldB (x : Nat × Nat × Nat × Nat × Nat) : Bool := decide (x.2.2.2.1 < nfs x.2.2.1) && decide (x.2.2.1 < 8) && decide ((FF x.2.2.1 x.2.2.2.1).1 = cnm x.2.2.1) && ((FF x.2.2.1 x.2.2.2.1).2.2.2 == (fty x.2.2.1 x.2.2.2.1 == 2)) && decide (fty x.2.2.1 x.2.2.2.1 = 0 → FT x.2.2.1 x.2.2.2.1 = .int) && decide (fty x.2.2.1 x.2.2.2.1 = 1 → FT x.2.2.1 x.2.2.2.1 = .boolean)
set_option maxRecDepth 100000 in
theorem fld_b : fldL.all fldB = true := by decide +kernel
set_option maxRecDepth 100000 in
theorem fld_w : fldL.all (fun x => decide (lw_tbl[x.2.2.2.2]? = some (fldW x))) = true := by decide +kernel
def calW (x : Nat × Nat × Nat × Nat × Nat × Nat × Nat × Nat × Nat) : List (Nat × Cond) := match x.2.2.1 with
  | 0 => [(x.2.2.2.2.1, .methodLink (cnm x.1) x.2.1 (mth x.2.2.2.1)), (x.2.2.2.2.2.1, .instanceMethod (mth x.2.2.2.1)), (x.2.2.2.2.2.2.1, .selects (mth x.2.2.2.1).cls (mth x.2.2.2.1) (mth x.2.2.2.1)), (x.2.2.2.2.2.2.2.2, .initialized (mth x.2.2.2.1).cls)]
  | 2 => [(x.2.2.2.2.1, .methodLink (cnm x.1) x.2.1 (mth x.2.2.2.1)), (x.2.2.2.2.2.1, .static (mth x.2.2.2.1)), (x.2.2.2.2.2.2.2.2, .initialized (mth x.2.2.2.1).cls)]
  | 3 => [(x.2.2.2.2.1, .methodLinkNest (cnm x.1) x.2.1 (mth x.2.2.2.1) "TruthWalk"), (x.2.2.2.2.2.1, .static (mth x.2.2.2.1)), (x.2.2.2.2.2.2.2.2, .initialized (mth x.2.2.2.1).cls)]
  | 4 => [(x.2.2.2.2.1, .methodLink (cnm x.1) x.2.1 (mth x.2.2.2.1)), (x.2.2.2.2.2.1, .instanceMethod (mth x.2.2.2.1)), (x.2.2.2.2.2.2.2.2, .initialized (mth x.2.2.2.1).cls)]
  | 5 => [(x.2.2.2.2.1, .methodLinkNest (cnm x.1) x.2.1 (mth x.2.2.2.1) "TruthWalk"), (x.2.2.2.2.2.1, .instanceMethod (mth x.2.2.2.1)), (x.2.2.2.2.2.2.2.2, .initialized (mth x.2.2.2.1).cls)]
  | 6 => [(x.2.2.2.2.1, .methodLink (cnm x.1) x.2.1 Lib.objectInit)]
  | 8 => [(x.2.2.2.2.1, .methodLink (cnm x.1) x.2.1 Lib.Math.max.name)]
  | 9 => [(x.2.2.2.2.1, .methodLink (cnm x.1) x.2.1 Lib.Math.min.name)]
  | 10 => [(x.2.2.2.2.1, .methodLink (cnm x.1) x.2.1 Lib.Math.abs.name)]
  | _ => [(x.2.2.2.2.1, .methodLink (cnm x.1) x.2.1 arraycopyName)]
def calB (x : Nat × Nat × Nat × Nat × Nat × Nat × Nat × Nat × Nat) : Bool := decide (x.2.2.1 = 0 ∨ x.2.2.1 = 2 ∨ x.2.2.1 = 3 ∨ x.2.2.1 = 4 ∨ x.2.2.1 = 5 ∨ x.2.2.1 = 6 ∨ x.2.2.1 = 7 ∨ x.2.2.1 = 8 ∨ x.2.2.1 = 9 ∨ x.2.2.1 = 10) && decide (x.2.2.2.1 < 206) && (decide (x.2.2.1 = 4 ∨ x.2.2.1 = 5 → (mth x.2.2.2.1).name = "<init>" ∧ rty x.2.2.2.1 = none)) && decide (x.2.2.1 = 0 ∨ x.2.2.1 = 2 ∨ x.2.2.1 = 3 → mcs x.2.2.2.1 = (0, 0))
set_option maxRecDepth 100000 in
theorem cal_b : calL.all calB = true := by decide +kernel
set_option maxRecDepth 100000 in
theorem cal_w : calL.all (fun x => (calW x).all (fun y => decide (lw_tbl[y.1]? = some y.2))) = true := by decide +kernel
def newW (x : Nat × Nat × Nat × Nat × Nat × Nat) : List (Nat × Cond) := [(x.2.2.2.1, .classLink (cnm x.1) x.2.1 (cnm x.2.2.1)), (x.2.2.2.2.1, .instantiable (cnm x.2.2.1) (nfs x.2.2.1)), (x.2.2.2.2.2, .initialized (cnm x.2.2.1))]
theorem new_w : newL.all (fun x => decide (x.2.2.1 < 8) && (newW x).all (fun y => decide (lw_tbl[y.1]? = some y.2))) = true := by decide +kernel
theorem ldc_w : ldcL.all (fun x => decide (lw_tbl[x.2.2.2]? = some (.constant (cnm x.1) x.2.1 x.2.2.1))) = true := by decide +kernel
theorem ldl_w : ldlL.all (fun x => decide (lw_tbl[x.2.2.2]? = some (.constantLong (cnm x.1) x.2.1 x.2.2.1))) = true := by decide +kernel
def metB (k : Nat) : Bool := Jvm.plainName (mth k).cls && decide ((mth k).cls = cnm (ocl k)) && decide ((mth k).cls ≠ "java/lang/invoke/MethodHandle") && decide ((mth k).cls ≠ "java/lang/invoke/VarHandle") && decide ((parseMethodDescriptor (mth k).desc).map (fun d => d.parameters.length) = some (npr k)) && decide (mxl k ≤ 15) && (isCt k == decide ((mth k).name = "<init>"))
set_option maxRecDepth 100000 in
theorem met_b : (List.range 206).all metB = true := by decide +kernel
theorem lay_0 : ((List.range 9).zip layP0).all (fun x => decide (lw_tbl[x.2]? = some (u_lay (cnm 0) (FF 0) x.1))) = true := by decide +kernel
theorem nm_0 : ∀ a, a < 9 → ∀ b, b < 9 → a ≠ b → (FF 0 a).2.1 ≠ (FF 0 b).2.1 := by decide +kernel
theorem pf_0 : ∀ k, k < 9 → parseFieldDescriptor (FF 0 k).2.2.1 = some (FT 0 k) := by decide +kernel
theorem lay_1 : ((List.range 12).zip layP1).all (fun x => decide (lw_tbl[x.2]? = some (u_lay (cnm 1) (FF 1) x.1))) = true := by decide +kernel
theorem nm_1 : ∀ a, a < 12 → ∀ b, b < 12 → a ≠ b → (FF 1 a).2.1 ≠ (FF 1 b).2.1 := by decide +kernel
theorem pf_1 : ∀ k, k < 12 → parseFieldDescriptor (FF 1 k).2.2.1 = some (FT 1 k) := by decide +kernel
theorem lay_2 : ((List.range 9).zip layP2).all (fun x => decide (lw_tbl[x.2]? = some (u_lay (cnm 2) (FF 2) x.1))) = true := by decide +kernel
theorem nm_2 : ∀ a, a < 9 → ∀ b, b < 9 → a ≠ b → (FF 2 a).2.1 ≠ (FF 2 b).2.1 := by decide +kernel
theorem pf_2 : ∀ k, k < 9 → parseFieldDescriptor (FF 2 k).2.2.1 = some (FT 2 k) := by decide +kernel
theorem lay_3 : ((List.range 4).zip layP3).all (fun x => decide (lw_tbl[x.2]? = some (u_lay (cnm 3) (FF 3) x.1))) = true := by decide +kernel
theorem nm_3 : ∀ a, a < 4 → ∀ b, b < 4 → a ≠ b → (FF 3 a).2.1 ≠ (FF 3 b).2.1 := by decide +kernel
theorem pf_3 : ∀ k, k < 4 → parseFieldDescriptor (FF 3 k).2.2.1 = some (FT 3 k) := by decide +kernel
theorem lay_4 : ((List.range 8).zip layP4).all (fun x => decide (lw_tbl[x.2]? = some (u_lay (cnm 4) (FF 4) x.1))) = true := by decide +kernel
theorem nm_4 : ∀ a, a < 8 → ∀ b, b < 8 → a ≠ b → (FF 4 a).2.1 ≠ (FF 4 b).2.1 := by decide +kernel
theorem pf_4 : ∀ k, k < 8 → parseFieldDescriptor (FF 4 k).2.2.1 = some (FT 4 k) := by decide +kernel
theorem lay_5 : ((List.range 4).zip layP5).all (fun x => decide (lw_tbl[x.2]? = some (u_lay (cnm 5) (FF 5) x.1))) = true := by decide +kernel
theorem nm_5 : ∀ a, a < 4 → ∀ b, b < 4 → a ≠ b → (FF 5 a).2.1 ≠ (FF 5 b).2.1 := by decide +kernel
theorem pf_5 : ∀ k, k < 4 → parseFieldDescriptor (FF 5 k).2.2.1 = some (FT 5 k) := by decide +kernel
theorem lay_6 : ((List.range 10).zip layP6).all (fun x => decide (lw_tbl[x.2]? = some (u_lay (cnm 6) (FF 6) x.1))) = true := by decide +kernel
theorem nm_6 : ∀ a, a < 10 → ∀ b, b < 10 → a ≠ b → (FF 6 a).2.1 ≠ (FF 6 b).2.1 := by decide +kernel
theorem pf_6 : ∀ k, k < 10 → parseFieldDescriptor (FF 6 k).2.2.1 = some (FT 6 k) := by decide +kernel
theorem lay_7 : ((List.range 49).zip layP7).all (fun x => decide (lw_tbl[x.2]? = some (u_lay (cnm 7) (FF 7) x.1))) = true := by decide +kernel
theorem nm_7 : ∀ a, a < 49 → ∀ b, b < 49 → a ≠ b → (FF 7 a).2.1 ≠ (FF 7 b).2.1 := by decide +kernel
theorem pf_7 : ∀ k, k < 49 → parseFieldDescriptor (FF 7 k).2.2.1 = some (FT 7 k) := by decide +kernel
set_option maxRecDepth 20000 in
theorem cw_0 : Cond.code (mth 0) (byt 0) (mxl 0) (rty 0) ∈ lw_tbl := List.mem_of_getElem? (i := 91) rfl
set_option maxRecDepth 20000 in
theorem cw_1 : Cond.code (mth 1) (byt 1) (mxl 1) (rty 1) ∈ lw_tbl := List.mem_of_getElem? (i := 176) rfl
set_option maxRecDepth 20000 in
theorem cw_2 : Cond.code (mth 2) (byt 2) (mxl 2) (rty 2) ∈ lw_tbl := List.mem_of_getElem? (i := 728) rfl
set_option maxRecDepth 20000 in
theorem cw_3 : Cond.code (mth 3) (byt 3) (mxl 3) (rty 3) ∈ lw_tbl := List.mem_of_getElem? (i := 413) rfl
set_option maxRecDepth 20000 in
theorem cw_4 : Cond.code (mth 4) (byt 4) (mxl 4) (rty 4) ∈ lw_tbl := List.mem_of_getElem? (i := 382) rfl
set_option maxRecDepth 20000 in
theorem cw_5 : Cond.code (mth 5) (byt 5) (mxl 5) (rty 5) ∈ lw_tbl := List.mem_of_getElem? (i := 360) rfl
set_option maxRecDepth 20000 in
theorem cw_6 : Cond.code (mth 6) (byt 6) (mxl 6) (rty 6) ∈ lw_tbl := List.mem_of_getElem? (i := 387) rfl
set_option maxRecDepth 20000 in
theorem cw_7 : Cond.code (mth 7) (byt 7) (mxl 7) (rty 7) ∈ lw_tbl := List.mem_of_getElem? (i := 374) rfl
set_option maxRecDepth 20000 in
theorem cw_8 : Cond.code (mth 8) (byt 8) (mxl 8) (rty 8) ∈ lw_tbl := List.mem_of_getElem? (i := 397) rfl
set_option maxRecDepth 20000 in
theorem cw_9 : Cond.code (mth 9) (byt 9) (mxl 9) (rty 9) ∈ lw_tbl := List.mem_of_getElem? (i := 405) rfl
set_option maxRecDepth 20000 in
theorem cw_10 : Cond.code (mth 10) (byt 10) (mxl 10) (rty 10) ∈ lw_tbl := List.mem_of_getElem? (i := 429) rfl
set_option maxRecDepth 20000 in
theorem cw_11 : Cond.code (mth 11) (byt 11) (mxl 11) (rty 11) ∈ lw_tbl := List.mem_of_getElem? (i := 435) rfl
set_option maxRecDepth 20000 in
theorem cw_12 : Cond.code (mth 12) (byt 12) (mxl 12) (rty 12) ∈ lw_tbl := List.mem_of_getElem? (i := 797) rfl
set_option maxRecDepth 20000 in
theorem cw_13 : Cond.code (mth 13) (byt 13) (mxl 13) (rty 13) ∈ lw_tbl := List.mem_of_getElem? (i := 741) rfl
set_option maxRecDepth 20000 in
theorem cw_14 : Cond.code (mth 14) (byt 14) (mxl 14) (rty 14) ∈ lw_tbl := List.mem_of_getElem? (i := 805) rfl
set_option maxRecDepth 20000 in
theorem cw_15 : Cond.code (mth 15) (byt 15) (mxl 15) (rty 15) ∈ lw_tbl := List.mem_of_getElem? (i := 696) rfl
set_option maxRecDepth 20000 in
theorem cw_16 : Cond.code (mth 16) (byt 16) (mxl 16) (rty 16) ∈ lw_tbl := List.mem_of_getElem? (i := 617) rfl
set_option maxRecDepth 20000 in
theorem cw_17 : Cond.code (mth 17) (byt 17) (mxl 17) (rty 17) ∈ lw_tbl := List.mem_of_getElem? (i := 666) rfl
set_option maxRecDepth 20000 in
theorem cw_18 : Cond.code (mth 18) (byt 18) (mxl 18) (rty 18) ∈ lw_tbl := List.mem_of_getElem? (i := 672) rfl
set_option maxRecDepth 20000 in
theorem cw_19 : Cond.code (mth 19) (byt 19) (mxl 19) (rty 19) ∈ lw_tbl := List.mem_of_getElem? (i := 97) rfl
set_option maxRecDepth 20000 in
theorem cw_20 : Cond.code (mth 20) (byt 20) (mxl 20) (rty 20) ∈ lw_tbl := List.mem_of_getElem? (i := 455) rfl
set_option maxRecDepth 20000 in
theorem cw_21 : Cond.code (mth 21) (byt 21) (mxl 21) (rty 21) ∈ lw_tbl := List.mem_of_getElem? (i := 544) rfl
set_option maxRecDepth 20000 in
theorem cw_22 : Cond.code (mth 22) (byt 22) (mxl 22) (rty 22) ∈ lw_tbl := List.mem_of_getElem? (i := 459) rfl
set_option maxRecDepth 20000 in
theorem cw_23 : Cond.code (mth 23) (byt 23) (mxl 23) (rty 23) ∈ lw_tbl := List.mem_of_getElem? (i := 540) rfl
set_option maxRecDepth 20000 in
theorem cw_24 : Cond.code (mth 24) (byt 24) (mxl 24) (rty 24) ∈ lw_tbl := List.mem_of_getElem? (i := 578) rfl
set_option maxRecDepth 20000 in
theorem cw_25 : Cond.code (mth 25) (byt 25) (mxl 25) (rty 25) ∈ lw_tbl := List.mem_of_getElem? (i := 586) rfl
set_option maxRecDepth 20000 in
theorem cw_26 : Cond.code (mth 26) (byt 26) (mxl 26) (rty 26) ∈ lw_tbl := List.mem_of_getElem? (i := 590) rfl
set_option maxRecDepth 20000 in
theorem cw_27 : Cond.code (mth 27) (byt 27) (mxl 27) (rty 27) ∈ lw_tbl := List.mem_of_getElem? (i := 605) rfl
set_option maxRecDepth 20000 in
theorem cw_28 : Cond.code (mth 28) (byt 28) (mxl 28) (rty 28) ∈ lw_tbl := List.mem_of_getElem? (i := 609) rfl
set_option maxRecDepth 20000 in
theorem cw_29 : Cond.code (mth 29) (byt 29) (mxl 29) (rty 29) ∈ lw_tbl := List.mem_of_getElem? (i := 613) rfl
set_option maxRecDepth 20000 in
theorem cw_30 : Cond.code (mth 30) (byt 30) (mxl 30) (rty 30) ∈ lw_tbl := List.mem_of_getElem? (i := 621) rfl
set_option maxRecDepth 20000 in
theorem cw_31 : Cond.code (mth 31) (byt 31) (mxl 31) (rty 31) ∈ lw_tbl := List.mem_of_getElem? (i := 635) rfl
set_option maxRecDepth 20000 in
theorem cw_32 : Cond.code (mth 32) (byt 32) (mxl 32) (rty 32) ∈ lw_tbl := List.mem_of_getElem? (i := 639) rfl
set_option maxRecDepth 20000 in
theorem cw_33 : Cond.code (mth 33) (byt 33) (mxl 33) (rty 33) ∈ lw_tbl := List.mem_of_getElem? (i := 653) rfl
set_option maxRecDepth 20000 in
theorem cw_34 : Cond.code (mth 34) (byt 34) (mxl 34) (rty 34) ∈ lw_tbl := List.mem_of_getElem? (i := 657) rfl
set_option maxRecDepth 20000 in
theorem cw_35 : Cond.code (mth 35) (byt 35) (mxl 35) (rty 35) ∈ lw_tbl := List.mem_of_getElem? (i := 258) rfl
set_option maxRecDepth 20000 in
theorem cw_36 : Cond.code (mth 36) (byt 36) (mxl 36) (rty 36) ∈ lw_tbl := List.mem_of_getElem? (i := 463) rfl
set_option maxRecDepth 20000 in
theorem cw_37 : Cond.code (mth 37) (byt 37) (mxl 37) (rty 37) ∈ lw_tbl := List.mem_of_getElem? (i := 467) rfl
set_option maxRecDepth 20000 in
theorem cw_38 : Cond.code (mth 38) (byt 38) (mxl 38) (rty 38) ∈ lw_tbl := List.mem_of_getElem? (i := 474) rfl
set_option maxRecDepth 20000 in
theorem cw_39 : Cond.code (mth 39) (byt 39) (mxl 39) (rty 39) ∈ lw_tbl := List.mem_of_getElem? (i := 482) rfl
set_option maxRecDepth 20000 in
theorem cw_40 : Cond.code (mth 40) (byt 40) (mxl 40) (rty 40) ∈ lw_tbl := List.mem_of_getElem? (i := 486) rfl
set_option maxRecDepth 20000 in
theorem cw_41 : Cond.code (mth 41) (byt 41) (mxl 41) (rty 41) ∈ lw_tbl := List.mem_of_getElem? (i := 490) rfl
set_option maxRecDepth 20000 in
theorem cw_42 : Cond.code (mth 42) (byt 42) (mxl 42) (rty 42) ∈ lw_tbl := List.mem_of_getElem? (i := 495) rfl
set_option maxRecDepth 20000 in
theorem cw_43 : Cond.code (mth 43) (byt 43) (mxl 43) (rty 43) ∈ lw_tbl := List.mem_of_getElem? (i := 499) rfl
set_option maxRecDepth 20000 in
theorem cw_44 : Cond.code (mth 44) (byt 44) (mxl 44) (rty 44) ∈ lw_tbl := List.mem_of_getElem? (i := 506) rfl
set_option maxRecDepth 20000 in
theorem cw_45 : Cond.code (mth 45) (byt 45) (mxl 45) (rty 45) ∈ lw_tbl := List.mem_of_getElem? (i := 552) rfl
set_option maxRecDepth 20000 in
theorem cw_46 : Cond.code (mth 46) (byt 46) (mxl 46) (rty 46) ∈ lw_tbl := List.mem_of_getElem? (i := 525) rfl
set_option maxRecDepth 20000 in
theorem cw_47 : Cond.code (mth 47) (byt 47) (mxl 47) (rty 47) ∈ lw_tbl := List.mem_of_getElem? (i := 530) rfl
set_option maxRecDepth 20000 in
theorem cw_48 : Cond.code (mth 48) (byt 48) (mxl 48) (rty 48) ∈ lw_tbl := List.mem_of_getElem? (i := 219) rfl
set_option maxRecDepth 20000 in
theorem cw_49 : Cond.code (mth 49) (byt 49) (mxl 49) (rty 49) ∈ lw_tbl := List.mem_of_getElem? (i := 447) rfl
set_option maxRecDepth 20000 in
theorem cw_50 : Cond.code (mth 50) (byt 50) (mxl 50) (rty 50) ∈ lw_tbl := List.mem_of_getElem? (i := 478) rfl
set_option maxRecDepth 20000 in
theorem cw_51 : Cond.code (mth 51) (byt 51) (mxl 51) (rty 51) ∈ lw_tbl := List.mem_of_getElem? (i := 510) rfl
set_option maxRecDepth 20000 in
theorem cw_52 : Cond.code (mth 52) (byt 52) (mxl 52) (rty 52) ∈ lw_tbl := List.mem_of_getElem? (i := 535) rfl
set_option maxRecDepth 20000 in
theorem cw_53 : Cond.code (mth 53) (byt 53) (mxl 53) (rty 53) ∈ lw_tbl := List.mem_of_getElem? (i := 556) rfl
set_option maxRecDepth 20000 in
theorem cw_54 : Cond.code (mth 54) (byt 54) (mxl 54) (rty 54) ∈ lw_tbl := List.mem_of_getElem? (i := 560) rfl
set_option maxRecDepth 20000 in
theorem cw_55 : Cond.code (mth 55) (byt 55) (mxl 55) (rty 55) ∈ lw_tbl := List.mem_of_getElem? (i := 227) rfl
set_option maxRecDepth 20000 in
theorem cw_56 : Cond.code (mth 56) (byt 56) (mxl 56) (rty 56) ∈ lw_tbl := List.mem_of_getElem? (i := 451) rfl
set_option maxRecDepth 20000 in
theorem cw_57 : Cond.code (mth 57) (byt 57) (mxl 57) (rty 57) ∈ lw_tbl := List.mem_of_getElem? (i := 514) rfl
set_option maxRecDepth 20000 in
theorem cw_58 : Cond.code (mth 58) (byt 58) (mxl 58) (rty 58) ∈ lw_tbl := List.mem_of_getElem? (i := 548) rfl
set_option maxRecDepth 20000 in
theorem cw_59 : Cond.code (mth 59) (byt 59) (mxl 59) (rty 59) ∈ lw_tbl := List.mem_of_getElem? (i := 521) rfl
set_option maxRecDepth 20000 in
theorem cw_60 : Cond.code (mth 60) (byt 60) (mxl 60) (rty 60) ∈ lw_tbl := List.mem_of_getElem? (i := 517) rfl
set_option maxRecDepth 20000 in
theorem cw_61 : Cond.code (mth 61) (byt 61) (mxl 61) (rty 61) ∈ lw_tbl := List.mem_of_getElem? (i := 103) rfl
set_option maxRecDepth 20000 in
theorem cw_62 : Cond.code (mth 62) (byt 62) (mxl 62) (rty 62) ∈ lw_tbl := List.mem_of_getElem? (i := 625) rfl
set_option maxRecDepth 20000 in
theorem cw_63 : Cond.code (mth 63) (byt 63) (mxl 63) (rty 63) ∈ lw_tbl := List.mem_of_getElem? (i := 700) rfl
set_option maxRecDepth 20000 in
theorem cw_64 : Cond.code (mth 64) (byt 64) (mxl 64) (rty 64) ∈ lw_tbl := List.mem_of_getElem? (i := 661) rfl
set_option maxRecDepth 20000 in
theorem cw_65 : Cond.code (mth 65) (byt 65) (mxl 65) (rty 65) ∈ lw_tbl := List.mem_of_getElem? (i := 810) rfl
set_option maxRecDepth 20000 in
theorem cw_66 : Cond.code (mth 66) (byt 66) (mxl 66) (rty 66) ∈ lw_tbl := List.mem_of_getElem? (i := 684) rfl
set_option maxRecDepth 20000 in
theorem cw_67 : Cond.code (mth 67) (byt 67) (mxl 67) (rty 67) ∈ lw_tbl := List.mem_of_getElem? (i := 705) rfl
set_option maxRecDepth 20000 in
theorem cw_68 : Cond.code (mth 68) (byt 68) (mxl 68) (rty 68) ∈ lw_tbl := List.mem_of_getElem? (i := 710) rfl
set_option maxRecDepth 20000 in
theorem cw_69 : Cond.code (mth 69) (byt 69) (mxl 69) (rty 69) ∈ lw_tbl := List.mem_of_getElem? (i := 714) rfl
set_option maxRecDepth 20000 in
theorem cw_70 : Cond.code (mth 70) (byt 70) (mxl 70) (rty 70) ∈ lw_tbl := List.mem_of_getElem? (i := 818) rfl
set_option maxRecDepth 20000 in
theorem cw_71 : Cond.code (mth 71) (byt 71) (mxl 71) (rty 71) ∈ lw_tbl := List.mem_of_getElem? (i := 680) rfl
set_option maxRecDepth 20000 in
theorem cw_72 : Cond.code (mth 72) (byt 72) (mxl 72) (rty 72) ∈ lw_tbl := List.mem_of_getElem? (i := 767) rfl
set_option maxRecDepth 20000 in
theorem cw_73 : Cond.code (mth 73) (byt 73) (mxl 73) (rty 73) ∈ lw_tbl := List.mem_of_getElem? (i := 771) rfl
set_option maxRecDepth 20000 in
theorem cw_74 : Cond.code (mth 74) (byt 74) (mxl 74) (rty 74) ∈ lw_tbl := List.mem_of_getElem? (i := 83) rfl
set_option maxRecDepth 20000 in
theorem cw_75 : Cond.code (mth 75) (byt 75) (mxl 75) (rty 75) ∈ lw_tbl := List.mem_of_getElem? (i := 343) rfl
set_option maxRecDepth 20000 in
theorem cw_76 : Cond.code (mth 76) (byt 76) (mxl 76) (rty 76) ∈ lw_tbl := List.mem_of_getElem? (i := 356) rfl
set_option maxRecDepth 20000 in
theorem cw_77 : Cond.code (mth 77) (byt 77) (mxl 77) (rty 77) ∈ lw_tbl := List.mem_of_getElem? (i := 378) rfl
set_option maxRecDepth 20000 in
theorem cw_78 : Cond.code (mth 78) (byt 78) (mxl 78) (rty 78) ∈ lw_tbl := List.mem_of_getElem? (i := 401) rfl
set_option maxRecDepth 20000 in
theorem cw_79 : Cond.code (mth 79) (byt 79) (mxl 79) (rty 79) ∈ lw_tbl := List.mem_of_getElem? (i := 409) rfl
set_option maxRecDepth 20000 in
theorem cw_80 : Cond.code (mth 80) (byt 80) (mxl 80) (rty 80) ∈ lw_tbl := List.mem_of_getElem? (i := 417) rfl
set_option maxRecDepth 20000 in
theorem cw_81 : Cond.code (mth 81) (byt 81) (mxl 81) (rty 81) ∈ lw_tbl := List.mem_of_getElem? (i := 421) rfl
set_option maxRecDepth 20000 in
theorem cw_82 : Cond.code (mth 82) (byt 82) (mxl 82) (rty 82) ∈ lw_tbl := List.mem_of_getElem? (i := 425) rfl
set_option maxRecDepth 20000 in
theorem cw_83 : Cond.code (mth 83) (byt 83) (mxl 83) (rty 83) ∈ lw_tbl := List.mem_of_getElem? (i := 439) rfl
set_option maxRecDepth 20000 in
theorem cw_84 : Cond.code (mth 84) (byt 84) (mxl 84) (rty 84) ∈ lw_tbl := List.mem_of_getElem? (i := 443) rfl
set_option maxRecDepth 20000 in
theorem cw_85 : Cond.code (mth 85) (byt 85) (mxl 85) (rty 85) ∈ lw_tbl := List.mem_of_getElem? (i := 565) rfl
set_option maxRecDepth 20000 in
theorem cw_86 : Cond.code (mth 86) (byt 86) (mxl 86) (rty 86) ∈ lw_tbl := List.mem_of_getElem? (i := 569) rfl
set_option maxRecDepth 20000 in
theorem cw_87 : Cond.code (mth 87) (byt 87) (mxl 87) (rty 87) ∈ lw_tbl := List.mem_of_getElem? (i := 574) rfl
set_option maxRecDepth 20000 in
theorem cw_88 : Cond.code (mth 88) (byt 88) (mxl 88) (rty 88) ∈ lw_tbl := List.mem_of_getElem? (i := 582) rfl
set_option maxRecDepth 20000 in
theorem cw_89 : Cond.code (mth 89) (byt 89) (mxl 89) (rty 89) ∈ lw_tbl := List.mem_of_getElem? (i := 601) rfl
set_option maxRecDepth 20000 in
theorem cw_90 : Cond.code (mth 90) (byt 90) (mxl 90) (rty 90) ∈ lw_tbl := List.mem_of_getElem? (i := 688) rfl
set_option maxRecDepth 20000 in
theorem cw_91 : Cond.code (mth 91) (byt 91) (mxl 91) (rty 91) ∈ lw_tbl := List.mem_of_getElem? (i := 692) rfl
set_option maxRecDepth 20000 in
theorem cw_92 : Cond.code (mth 92) (byt 92) (mxl 92) (rty 92) ∈ lw_tbl := List.mem_of_getElem? (i := 724) rfl
set_option maxRecDepth 20000 in
theorem cw_93 : Cond.code (mth 93) (byt 93) (mxl 93) (rty 93) ∈ lw_tbl := List.mem_of_getElem? (i := 733) rfl
set_option maxRecDepth 20000 in
theorem cw_94 : Cond.code (mth 94) (byt 94) (mxl 94) (rty 94) ∈ lw_tbl := List.mem_of_getElem? (i := 751) rfl
set_option maxRecDepth 20000 in
theorem cw_95 : Cond.code (mth 95) (byt 95) (mxl 95) (rty 95) ∈ lw_tbl := List.mem_of_getElem? (i := 759) rfl
set_option maxRecDepth 20000 in
theorem cw_96 : Cond.code (mth 96) (byt 96) (mxl 96) (rty 96) ∈ lw_tbl := List.mem_of_getElem? (i := 763) rfl
set_option maxRecDepth 20000 in
theorem cw_97 : Cond.code (mth 97) (byt 97) (mxl 97) (rty 97) ∈ lw_tbl := List.mem_of_getElem? (i := 775) rfl
set_option maxRecDepth 20000 in
theorem cw_98 : Cond.code (mth 98) (byt 98) (mxl 98) (rty 98) ∈ lw_tbl := List.mem_of_getElem? (i := 780) rfl
set_option maxRecDepth 20000 in
theorem cw_99 : Cond.code (mth 99) (byt 99) (mxl 99) (rty 99) ∈ lw_tbl := List.mem_of_getElem? (i := 785) rfl
set_option maxRecDepth 20000 in
theorem cw_100 : Cond.code (mth 100) (byt 100) (mxl 100) (rty 100) ∈ lw_tbl := List.mem_of_getElem? (i := 793) rfl
set_option maxRecDepth 20000 in
theorem cw_101 : Cond.code (mth 101) (byt 101) (mxl 101) (rty 101) ∈ lw_tbl := List.mem_of_getElem? (i := 801) rfl
set_option maxRecDepth 20000 in
theorem cw_102 : Cond.code (mth 102) (byt 102) (mxl 102) (rty 102) ∈ lw_tbl := List.mem_of_getElem? (i := 814) rfl
set_option maxRecDepth 20000 in
theorem cw_103 : Cond.code (mth 103) (byt 103) (mxl 103) (rty 103) ∈ lw_tbl := List.mem_of_getElem? (i := 823) rfl
set_option maxRecDepth 20000 in
theorem cw_104 : Cond.code (mth 104) (byt 104) (mxl 104) (rty 104) ∈ lw_tbl := List.mem_of_getElem? (i := 827) rfl
set_option maxRecDepth 20000 in
theorem cw_105 : Cond.code (mth 105) (byt 105) (mxl 105) (rty 105) ∈ lw_tbl := List.mem_of_getElem? (i := 835) rfl
set_option maxRecDepth 20000 in
theorem cw_106 : Cond.code (mth 106) (byt 106) (mxl 106) (rty 106) ∈ lw_tbl := List.mem_of_getElem? (i := 839) rfl
set_option maxRecDepth 20000 in
theorem cw_107 : Cond.code (mth 107) (byt 107) (mxl 107) (rty 107) ∈ lw_tbl := List.mem_of_getElem? (i := 843) rfl
set_option maxRecDepth 20000 in
theorem cw_108 : Cond.code (mth 108) (byt 108) (mxl 108) (rty 108) ∈ lw_tbl := List.mem_of_getElem? (i := 850) rfl
set_option maxRecDepth 20000 in
theorem cw_109 : Cond.code (mth 109) (byt 109) (mxl 109) (rty 109) ∈ lw_tbl := List.mem_of_getElem? (i := 854) rfl
set_option maxRecDepth 20000 in
theorem cw_110 : Cond.code (mth 110) (byt 110) (mxl 110) (rty 110) ∈ lw_tbl := List.mem_of_getElem? (i := 347) rfl
set_option maxRecDepth 20000 in
theorem cw_111 : Cond.code (mth 111) (byt 111) (mxl 111) (rty 111) ∈ lw_tbl := List.mem_of_getElem? (i := 351) rfl
set_option maxRecDepth 20000 in
theorem cw_112 : Cond.code (mth 112) (byt 112) (mxl 112) (rty 112) ∈ lw_tbl := List.mem_of_getElem? (i := 737) rfl
set_option maxRecDepth 20000 in
theorem cw_113 : Cond.code (mth 113) (byt 113) (mxl 113) (rty 113) ∈ lw_tbl := List.mem_of_getElem? (i := 370) rfl
set_option maxRecDepth 20000 in
theorem cw_114 : Cond.code (mth 114) (byt 114) (mxl 114) (rty 114) ∈ lw_tbl := List.mem_of_getElem? (i := 831) rfl
set_option maxRecDepth 20000 in
theorem cw_115 : Cond.code (mth 115) (byt 115) (mxl 115) (rty 115) ∈ lw_tbl := List.mem_of_getElem? (i := 747) rfl
set_option maxRecDepth 20000 in
theorem cw_116 : Cond.code (mth 116) (byt 116) (mxl 116) (rty 116) ∈ lw_tbl := List.mem_of_getElem? (i := 789) rfl
set_option maxRecDepth 20000 in
theorem cw_117 : Cond.code (mth 117) (byt 117) (mxl 117) (rty 117) ∈ lw_tbl := List.mem_of_getElem? (i := 755) rfl
set_option maxRecDepth 20000 in
theorem cw_118 : Cond.code (mth 118) (byt 118) (mxl 118) (rty 118) ∈ lw_tbl := List.mem_of_getElem? (i := 366) rfl
set_option maxRecDepth 20000 in
theorem cw_119 : Cond.code (mth 119) (byt 119) (mxl 119) (rty 119) ∈ lw_tbl := List.mem_of_getElem? (i := 363) rfl
set_option maxRecDepth 20000 in
theorem cw_120 : Cond.code (mth 120) (byt 120) (mxl 120) (rty 120) ∈ lw_tbl := List.mem_of_getElem? (i := 470) rfl
set_option maxRecDepth 20000 in
theorem cw_121 : Cond.code (mth 121) (byt 121) (mxl 121) (rty 121) ∈ lw_tbl := List.mem_of_getElem? (i := 502) rfl
set_option maxRecDepth 20000 in
theorem cw_122 : Cond.code (mth 122) (byt 122) (mxl 122) (rty 122) ∈ lw_tbl := List.mem_of_getElem? (i := 643) rfl
set_option maxRecDepth 20000 in
theorem cw_123 : Cond.code (mth 123) (byt 123) (mxl 123) (rty 123) ∈ lw_tbl := List.mem_of_getElem? (i := 859) rfl
set_option maxRecDepth 20000 in
theorem cw_124 : Cond.code (mth 124) (byt 124) (mxl 124) (rty 124) ∈ lw_tbl := List.mem_of_getElem? (i := 1026) rfl
set_option maxRecDepth 20000 in
theorem cw_125 : Cond.code (mth 125) (byt 125) (mxl 125) (rty 125) ∈ lw_tbl := List.mem_of_getElem? (i := 1022) rfl
set_option maxRecDepth 20000 in
theorem cw_126 : Cond.code (mth 126) (byt 126) (mxl 126) (rty 126) ∈ lw_tbl := List.mem_of_getElem? (i := 1018) rfl
set_option maxRecDepth 20000 in
theorem cw_127 : Cond.code (mth 127) (byt 127) (mxl 127) (rty 127) ∈ lw_tbl := List.mem_of_getElem? (i := 1038) rfl
set_option maxRecDepth 20000 in
theorem cw_128 : Cond.code (mth 128) (byt 128) (mxl 128) (rty 128) ∈ lw_tbl := List.mem_of_getElem? (i := 1041) rfl
set_option maxRecDepth 20000 in
theorem cw_129 : Cond.code (mth 129) (byt 129) (mxl 129) (rty 129) ∈ lw_tbl := List.mem_of_getElem? (i := 1055) rfl
set_option maxRecDepth 20000 in
theorem cw_130 : Cond.code (mth 130) (byt 130) (mxl 130) (rty 130) ∈ lw_tbl := List.mem_of_getElem? (i := 1048) rfl
set_option maxRecDepth 20000 in
theorem cw_131 : Cond.code (mth 131) (byt 131) (mxl 131) (rty 131) ∈ lw_tbl := List.mem_of_getElem? (i := 1074) rfl
set_option maxRecDepth 20000 in
theorem cw_132 : Cond.code (mth 132) (byt 132) (mxl 132) (rty 132) ∈ lw_tbl := List.mem_of_getElem? (i := 1015) rfl
set_option maxRecDepth 20000 in
theorem cw_133 : Cond.code (mth 133) (byt 133) (mxl 133) (rty 133) ∈ lw_tbl := List.mem_of_getElem? (i := 1045) rfl
set_option maxRecDepth 20000 in
theorem cw_134 : Cond.code (mth 134) (byt 134) (mxl 134) (rty 134) ∈ lw_tbl := List.mem_of_getElem? (i := 1034) rfl
set_option maxRecDepth 20000 in
theorem cw_135 : Cond.code (mth 135) (byt 135) (mxl 135) (rty 135) ∈ lw_tbl := List.mem_of_getElem? (i := 1030) rfl
set_option maxRecDepth 20000 in
theorem cw_136 : Cond.code (mth 136) (byt 136) (mxl 136) (rty 136) ∈ lw_tbl := List.mem_of_getElem? (i := 1052) rfl
set_option maxRecDepth 20000 in
theorem cw_137 : Cond.code (mth 137) (byt 137) (mxl 137) (rty 137) ∈ lw_tbl := List.mem_of_getElem? (i := 1059) rfl
set_option maxRecDepth 20000 in
theorem cw_138 : Cond.code (mth 138) (byt 138) (mxl 138) (rty 138) ∈ lw_tbl := List.mem_of_getElem? (i := 1067) rfl
set_option maxRecDepth 20000 in
theorem cw_139 : Cond.code (mth 139) (byt 139) (mxl 139) (rty 139) ∈ lw_tbl := List.mem_of_getElem? (i := 1063) rfl
set_option maxRecDepth 20000 in
theorem cw_140 : Cond.code (mth 140) (byt 140) (mxl 140) (rty 140) ∈ lw_tbl := List.mem_of_getElem? (i := 1071) rfl
set_option maxRecDepth 20000 in
theorem cw_141 : Cond.code (mth 141) (byt 141) (mxl 141) (rty 141) ∈ lw_tbl := List.mem_of_getElem? (i := 1078) rfl
set_option maxRecDepth 20000 in
theorem cw_142 : Cond.code (mth 142) (byt 142) (mxl 142) (rty 142) ∈ lw_tbl := List.mem_of_getElem? (i := 1086) rfl
set_option maxRecDepth 20000 in
theorem cw_143 : Cond.code (mth 143) (byt 143) (mxl 143) (rty 143) ∈ lw_tbl := List.mem_of_getElem? (i := 1082) rfl
set_option maxRecDepth 20000 in
theorem cw_144 : Cond.code (mth 144) (byt 144) (mxl 144) (rty 144) ∈ lw_tbl := List.mem_of_getElem? (i := 1090) rfl
set_option maxRecDepth 20000 in
theorem cw_145 : Cond.code (mth 145) (byt 145) (mxl 145) (rty 145) ∈ lw_tbl := List.mem_of_getElem? (i := 1098) rfl
set_option maxRecDepth 20000 in
theorem cw_146 : Cond.code (mth 146) (byt 146) (mxl 146) (rty 146) ∈ lw_tbl := List.mem_of_getElem? (i := 1139) rfl
set_option maxRecDepth 20000 in
theorem cw_147 : Cond.code (mth 147) (byt 147) (mxl 147) (rty 147) ∈ lw_tbl := List.mem_of_getElem? (i := 1103) rfl
set_option maxRecDepth 20000 in
theorem cw_148 : Cond.code (mth 148) (byt 148) (mxl 148) (rty 148) ∈ lw_tbl := List.mem_of_getElem? (i := 1119) rfl
set_option maxRecDepth 20000 in
theorem cw_149 : Cond.code (mth 149) (byt 149) (mxl 149) (rty 149) ∈ lw_tbl := List.mem_of_getElem? (i := 1115) rfl
set_option maxRecDepth 20000 in
theorem cw_150 : Cond.code (mth 150) (byt 150) (mxl 150) (rty 150) ∈ lw_tbl := List.mem_of_getElem? (i := 1111) rfl
set_option maxRecDepth 20000 in
theorem cw_151 : Cond.code (mth 151) (byt 151) (mxl 151) (rty 151) ∈ lw_tbl := List.mem_of_getElem? (i := 1123) rfl
set_option maxRecDepth 20000 in
theorem cw_152 : Cond.code (mth 152) (byt 152) (mxl 152) (rty 152) ∈ lw_tbl := List.mem_of_getElem? (i := 1107) rfl
set_option maxRecDepth 20000 in
theorem cw_153 : Cond.code (mth 153) (byt 153) (mxl 153) (rty 153) ∈ lw_tbl := List.mem_of_getElem? (i := 1147) rfl
set_option maxRecDepth 20000 in
theorem cw_154 : Cond.code (mth 154) (byt 154) (mxl 154) (rty 154) ∈ lw_tbl := List.mem_of_getElem? (i := 1167) rfl
set_option maxRecDepth 20000 in
theorem cw_155 : Cond.code (mth 155) (byt 155) (mxl 155) (rty 155) ∈ lw_tbl := List.mem_of_getElem? (i := 1155) rfl
set_option maxRecDepth 20000 in
theorem cw_156 : Cond.code (mth 156) (byt 156) (mxl 156) (rty 156) ∈ lw_tbl := List.mem_of_getElem? (i := 1159) rfl
set_option maxRecDepth 20000 in
theorem cw_157 : Cond.code (mth 157) (byt 157) (mxl 157) (rty 157) ∈ lw_tbl := List.mem_of_getElem? (i := 1135) rfl
set_option maxRecDepth 20000 in
theorem cw_158 : Cond.code (mth 158) (byt 158) (mxl 158) (rty 158) ∈ lw_tbl := List.mem_of_getElem? (i := 1131) rfl
set_option maxRecDepth 20000 in
theorem cw_159 : Cond.code (mth 159) (byt 159) (mxl 159) (rty 159) ∈ lw_tbl := List.mem_of_getElem? (i := 1151) rfl
set_option maxRecDepth 20000 in
theorem cw_160 : Cond.code (mth 160) (byt 160) (mxl 160) (rty 160) ∈ lw_tbl := List.mem_of_getElem? (i := 1143) rfl
set_option maxRecDepth 20000 in
theorem cw_161 : Cond.code (mth 161) (byt 161) (mxl 161) (rty 161) ∈ lw_tbl := List.mem_of_getElem? (i := 1163) rfl
set_option maxRecDepth 20000 in
theorem cw_162 : Cond.code (mth 162) (byt 162) (mxl 162) (rty 162) ∈ lw_tbl := List.mem_of_getElem? (i := 1127) rfl
set_option maxRecDepth 20000 in
theorem cw_163 : Cond.code (mth 163) (byt 163) (mxl 163) (rty 163) ∈ lw_tbl := List.mem_of_getElem? (i := 1094) rfl
set_option maxRecDepth 20000 in
theorem cw_164 : Cond.code (mth 164) (byt 164) (mxl 164) (rty 164) ∈ lw_tbl := List.mem_of_getElem? (i := 1171) rfl
set_option maxRecDepth 20000 in
theorem cw_165 : Cond.code (mth 165) (byt 165) (mxl 165) (rty 165) ∈ lw_tbl := List.mem_of_getElem? (i := 1179) rfl
set_option maxRecDepth 20000 in
theorem cw_166 : Cond.code (mth 166) (byt 166) (mxl 166) (rty 166) ∈ lw_tbl := List.mem_of_getElem? (i := 1183) rfl
set_option maxRecDepth 20000 in
theorem cw_167 : Cond.code (mth 167) (byt 167) (mxl 167) (rty 167) ∈ lw_tbl := List.mem_of_getElem? (i := 1175) rfl
set_option maxRecDepth 20000 in
theorem cw_168 : Cond.code (mth 168) (byt 168) (mxl 168) (rty 168) ∈ lw_tbl := List.mem_of_getElem? (i := 1191) rfl
set_option maxRecDepth 20000 in
theorem cw_169 : Cond.code (mth 169) (byt 169) (mxl 169) (rty 169) ∈ lw_tbl := List.mem_of_getElem? (i := 1187) rfl
set_option maxRecDepth 20000 in
theorem cw_170 : Cond.code (mth 170) (byt 170) (mxl 170) (rty 170) ∈ lw_tbl := List.mem_of_getElem? (i := 1195) rfl
set_option maxRecDepth 20000 in
theorem cw_171 : Cond.code (mth 171) (byt 171) (mxl 171) (rty 171) ∈ lw_tbl := List.mem_of_getElem? (i := 1211) rfl
set_option maxRecDepth 20000 in
theorem cw_172 : Cond.code (mth 172) (byt 172) (mxl 172) (rty 172) ∈ lw_tbl := List.mem_of_getElem? (i := 1207) rfl
set_option maxRecDepth 20000 in
theorem cw_173 : Cond.code (mth 173) (byt 173) (mxl 173) (rty 173) ∈ lw_tbl := List.mem_of_getElem? (i := 1203) rfl
set_option maxRecDepth 20000 in
theorem cw_174 : Cond.code (mth 174) (byt 174) (mxl 174) (rty 174) ∈ lw_tbl := List.mem_of_getElem? (i := 1223) rfl
set_option maxRecDepth 20000 in
theorem cw_175 : Cond.code (mth 175) (byt 175) (mxl 175) (rty 175) ∈ lw_tbl := List.mem_of_getElem? (i := 1215) rfl
set_option maxRecDepth 20000 in
theorem cw_176 : Cond.code (mth 176) (byt 176) (mxl 176) (rty 176) ∈ lw_tbl := List.mem_of_getElem? (i := 1219) rfl
set_option maxRecDepth 20000 in
theorem cw_177 : Cond.code (mth 177) (byt 177) (mxl 177) (rty 177) ∈ lw_tbl := List.mem_of_getElem? (i := 1199) rfl
set_option maxRecDepth 20000 in
theorem cw_178 : Cond.code (mth 178) (byt 178) (mxl 178) (rty 178) ∈ lw_tbl := List.mem_of_getElem? (i := 1227) rfl
set_option maxRecDepth 20000 in
theorem cw_179 : Cond.code (mth 179) (byt 179) (mxl 179) (rty 179) ∈ lw_tbl := List.mem_of_getElem? (i := 1243) rfl
set_option maxRecDepth 20000 in
theorem cw_180 : Cond.code (mth 180) (byt 180) (mxl 180) (rty 180) ∈ lw_tbl := List.mem_of_getElem? (i := 1235) rfl
set_option maxRecDepth 20000 in
theorem cw_181 : Cond.code (mth 181) (byt 181) (mxl 181) (rty 181) ∈ lw_tbl := List.mem_of_getElem? (i := 1239) rfl
set_option maxRecDepth 20000 in
theorem cw_182 : Cond.code (mth 182) (byt 182) (mxl 182) (rty 182) ∈ lw_tbl := List.mem_of_getElem? (i := 1231) rfl
set_option maxRecDepth 20000 in
theorem cw_183 : Cond.code (mth 183) (byt 183) (mxl 183) (rty 183) ∈ lw_tbl := List.mem_of_getElem? (i := 1247) rfl
set_option maxRecDepth 20000 in
theorem cw_184 : Cond.code (mth 184) (byt 184) (mxl 184) (rty 184) ∈ lw_tbl := List.mem_of_getElem? (i := 1259) rfl
set_option maxRecDepth 20000 in
theorem cw_185 : Cond.code (mth 185) (byt 185) (mxl 185) (rty 185) ∈ lw_tbl := List.mem_of_getElem? (i := 1255) rfl
set_option maxRecDepth 20000 in
theorem cw_186 : Cond.code (mth 186) (byt 186) (mxl 186) (rty 186) ∈ lw_tbl := List.mem_of_getElem? (i := 1251) rfl
set_option maxRecDepth 20000 in
theorem cw_187 : Cond.code (mth 187) (byt 187) (mxl 187) (rty 187) ∈ lw_tbl := List.mem_of_getElem? (i := 1263) rfl
set_option maxRecDepth 20000 in
theorem cw_188 : Cond.code (mth 188) (byt 188) (mxl 188) (rty 188) ∈ lw_tbl := List.mem_of_getElem? (i := 1267) rfl
set_option maxRecDepth 20000 in
theorem cw_189 : Cond.code (mth 189) (byt 189) (mxl 189) (rty 189) ∈ lw_tbl := List.mem_of_getElem? (i := 1271) rfl
set_option maxRecDepth 20000 in
theorem cw_190 : Cond.code (mth 190) (byt 190) (mxl 190) (rty 190) ∈ lw_tbl := List.mem_of_getElem? (i := 1275) rfl
set_option maxRecDepth 20000 in
theorem cw_191 : Cond.code (mth 191) (byt 191) (mxl 191) (rty 191) ∈ lw_tbl := List.mem_of_getElem? (i := 1279) rfl
set_option maxRecDepth 20000 in
theorem cw_192 : Cond.code (mth 192) (byt 192) (mxl 192) (rty 192) ∈ lw_tbl := List.mem_of_getElem? (i := 1284) rfl
set_option maxRecDepth 20000 in
theorem cw_193 : Cond.code (mth 193) (byt 193) (mxl 193) (rty 193) ∈ lw_tbl := List.mem_of_getElem? (i := 1288) rfl
set_option maxRecDepth 20000 in
theorem cw_194 : Cond.code (mth 194) (byt 194) (mxl 194) (rty 194) ∈ lw_tbl := List.mem_of_getElem? (i := 1292) rfl
set_option maxRecDepth 20000 in
theorem cw_195 : Cond.code (mth 195) (byt 195) (mxl 195) (rty 195) ∈ lw_tbl := List.mem_of_getElem? (i := 1296) rfl
set_option maxRecDepth 20000 in
theorem cw_196 : Cond.code (mth 196) (byt 196) (mxl 196) (rty 196) ∈ lw_tbl := List.mem_of_getElem? (i := 1300) rfl
set_option maxRecDepth 20000 in
theorem cw_197 : Cond.code (mth 197) (byt 197) (mxl 197) (rty 197) ∈ lw_tbl := List.mem_of_getElem? (i := 1304) rfl
set_option maxRecDepth 20000 in
theorem cw_198 : Cond.code (mth 198) (byt 198) (mxl 198) (rty 198) ∈ lw_tbl := List.mem_of_getElem? (i := 1308) rfl
set_option maxRecDepth 20000 in
theorem cw_199 : Cond.code (mth 199) (byt 199) (mxl 199) (rty 199) ∈ lw_tbl := List.mem_of_getElem? (i := 1312) rfl
set_option maxRecDepth 20000 in
theorem cw_200 : Cond.code (mth 200) (byt 200) (mxl 200) (rty 200) ∈ lw_tbl := List.mem_of_getElem? (i := 1316) rfl
set_option maxRecDepth 20000 in
theorem cw_201 : Cond.code (mth 201) (byt 201) (mxl 201) (rty 201) ∈ lw_tbl := List.mem_of_getElem? (i := 1320) rfl
set_option maxRecDepth 20000 in
theorem cw_202 : Cond.code (mth 202) (byt 202) (mxl 202) (rty 202) ∈ lw_tbl := List.mem_of_getElem? (i := 1324) rfl
set_option maxRecDepth 20000 in
theorem cw_203 : Cond.code (mth 203) (byt 203) (mxl 203) (rty 203) ∈ lw_tbl := List.mem_of_getElem? (i := 390) rfl
set_option maxRecDepth 20000 in
theorem cw_204 : Cond.code (mth 204) (byt 204) (mxl 204) (rty 204) ∈ lw_tbl := List.mem_of_getElem? (i := 717) rfl
set_option maxRecDepth 20000 in
theorem cw_205 : Cond.code (mth 205) (byt 205) (mxl 205) (rty 205) ∈ lw_tbl := List.mem_of_getElem? (i := 596) rfl
