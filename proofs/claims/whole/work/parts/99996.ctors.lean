/-! ===== the constructors ===== -/
section Ctors
variable {G : ev_G} {μ : ev_M}
theorem cw_oi : Cond.instanceMethod Lib.objectInit ∈ ev_wd ∧ Cond.code Lib.objectInit ⟨#[0xb1]⟩ 1 none ∈ ev_wd := by decide +kernel
theorem cw_ar : Cond.arrayClass .int ∈ ev_wd ∧ Cond.arrayClass .long ∈ ev_wd ∧ Cond.arrayClass .boolean ∈ ev_wd ∧ Cond.arrayClass .byte ∈ ev_wd ∧ Cond.arrayClass .double ∈ ev_wd := by decide +kernel
theorem cw_ao : Cond.arrayOver (.object RX4) ∈ lw_tbl := by decide +kernel
theorem sh_B79 : ∀ i, i < 8 → 0 + 78 + 2 + 22 * i ∈ sh_B := by decide +kernel
theorem sh_B256 : ∀ i, i < 2 → 0 + 257 + 22 * i ∈ sh_B := by decide +kernel
theorem ct_max : ∀ r, r < 17 → (if (0 : Int32) < nI r then nI r else 0) = nI r := by decide +kernel
theorem ct_dflt (fs : List Value) (N : Nat) (ty : Nat → FieldType) (h : (List.range N).map (fun j => defaultValue (ty j)) = (List.range N).map (vp_V fs)) : ∀ j, j < N → defaultValue (ty j) = vp_V fs j := fun j hj => (List.map_inj_left.mp h) j (List.mem_range.mpr hj)
theorem dX1_init_0 : decode cX1_init 0 = .ok (.aload_n 0, 1) := by decide +kernel
theorem dX1_init_1 : decode cX1_init 1 = .ok (.invokespecial 1, 3) := by decide +kernel
theorem dX1_init_4 : decode cX1_init 4 = .ok (.aload_n 0, 1) := by decide +kernel
theorem dX1_init_5 : decode cX1_init 5 = .ok (.iconst 0, 1) := by decide +kernel
theorem dX1_init_6 : decode cX1_init 6 = .ok (.iload_n 1, 1) := by decide +kernel
theorem dX1_init_7 : decode cX1_init 7 = .ok (.invokestatic 7, 3) := by decide +kernel
theorem dX1_init_10 : decode cX1_init 10 = .ok (.newarray .int, 2) := by decide +kernel
theorem dX1_init_12 : decode cX1_init 12 = .ok (.putfield 13, 3) := by decide +kernel
theorem dX1_init_15 : decode cX1_init 15 = .ok (.return_, 1) := by decide +kernel
theorem cw_X1_oi : Cond.methodLink RX1 1 Lib.objectInit ∈ ev_wd := by decide +kernel
theorem cw_X1_x7 : Cond.methodLink RX1 7 Lib.Math.max.name ∈ ev_wd := by decide +kernel
theorem cw_X1_f13 : Cond.fieldLink RX1 13 RX1 "cells" "[I" ∈ ev_wd := by decide +kernel
theorem cw_X1 : Cond.instantiable RX1 2 ∈ ev_wd ∧ Cond.initialized RX1 ∈ ev_wd ∧ Cond.instanceMethod yX1_init ∈ ev_wd ∧ Cond.code yX1_init cX1_init 2 none ∈ ev_wd := by decide +kernel
theorem cp_X1 : yX1_init.cls ≠ "java/lang/invoke/MethodHandle" ∧ yX1_init.cls ≠ "java/lang/invoke/VarHandle" ∧ (parseMethodDescriptor yX1_init.desc).map (fun d => d.parameters.length) = some 1 := by decide +kernel
theorem cd_X1 : ∀ j, j < 2 → defaultValue (tyX1 j) = vp_V [.null, .int 0] j := ct_dflt _ _ _ rfl
theorem dX2_init_0 : decode cX2_init 0 = .ok (.aload_n 0, 1) := by decide +kernel
theorem dX2_init_1 : decode cX2_init 1 = .ok (.invokespecial 3, 3) := by decide +kernel
theorem dX2_init_4 : decode cX2_init 4 = .ok (.aload_n 0, 1) := by decide +kernel
theorem dX2_init_5 : decode cX2_init 5 = .ok (.bipush 8, 2) := by decide +kernel
theorem dX2_init_7 : decode cX2_init 7 = .ok (.anewarray 9, 3) := by decide +kernel
theorem dX2_init_10 : decode cX2_init 10 = .ok (.putfield 11, 3) := by decide +kernel
theorem dX2_init_13 : decode cX2_init 13 = .ok (.iconst 0, 1) := by decide +kernel
theorem dX2_init_14 : decode cX2_init 14 = .ok (.istore_n 1, 1) := by decide +kernel
theorem dX2_init_15 : decode cX2_init 15 = .ok (.iload_n 1, 1) := by decide +kernel
theorem dX2_init_16 : decode cX2_init 16 = .ok (.aload_n 0, 1) := by decide +kernel
theorem dX2_init_17 : decode cX2_init 17 = .ok (.getfield 11, 3) := by decide +kernel
theorem dX2_init_20 : decode cX2_init 20 = .ok (.arraylength, 1) := by decide +kernel
theorem dX2_init_21 : decode cX2_init 21 = .ok (.if_icmp .ge 22, 3) := by decide +kernel
theorem dX2_init_24 : decode cX2_init 24 = .ok (.aload_n 0, 1) := by decide +kernel
theorem dX2_init_25 : decode cX2_init 25 = .ok (.getfield 11, 3) := by decide +kernel
theorem dX2_init_28 : decode cX2_init 28 = .ok (.iload_n 1, 1) := by decide +kernel
theorem dX2_init_29 : decode cX2_init 29 = .ok (.new 9, 3) := by decide +kernel
theorem dX2_init_32 : decode cX2_init 32 = .ok (.dup, 1) := by decide +kernel
theorem dX2_init_33 : decode cX2_init 33 = .ok (.invokespecial 17, 3) := by decide +kernel
theorem dX2_init_36 : decode cX2_init 36 = .ok (.aastore, 1) := by decide +kernel
theorem dX2_init_37 : decode cX2_init 37 = .ok (.iinc 1 1, 3) := by decide +kernel
theorem dX2_init_40 : decode cX2_init 40 = .ok (.goto (-25), 3) := by decide +kernel
theorem dX2_init_43 : decode cX2_init 43 = .ok (.return_, 1) := by decide +kernel
theorem cw_X2_oi : Cond.methodLink RX2 3 Lib.objectInit ∈ ev_wd := by decide +kernel
theorem cw_X2_c9 : Cond.classLink RX2 9 RX4 ∈ ev_wd := by decide +kernel
theorem cw_X2_f11 : Cond.fieldLink RX2 11 RX2 "past" "[LPancakePanel$Panel;" ∈ ev_wd := by decide +kernel
theorem cw_X2_n17 : Cond.methodLinkNest RX2 17 yX4_init "PancakePanel" ∈ ev_wd := by decide +kernel
theorem cw_X2 : Cond.instantiable RX2 3 ∈ ev_wd ∧ Cond.initialized RX2 ∈ ev_wd ∧ Cond.instanceMethod yX2_init ∈ ev_wd ∧ Cond.code yX2_init cX2_init 2 none ∈ ev_wd := by decide +kernel
theorem cp_X2 : yX2_init.cls ≠ "java/lang/invoke/MethodHandle" ∧ yX2_init.cls ≠ "java/lang/invoke/VarHandle" ∧ (parseMethodDescriptor yX2_init.desc).map (fun d => d.parameters.length) = some 0 := by decide +kernel
theorem cd_X2 : ∀ j, j < 3 → defaultValue (tyX2 j) = vp_V [.null, .int 0, .int 0] j := ct_dflt _ _ _ rfl
theorem dX4_init_0 : decode cX4_init 0 = .ok (.aload_n 0, 1) := by decide +kernel
theorem dX4_init_1 : decode cX4_init 1 = .ok (.invokespecial 3, 3) := by decide +kernel
theorem dX4_init_4 : decode cX4_init 4 = .ok (.aload_n 0, 1) := by decide +kernel
theorem dX4_init_5 : decode cX4_init 5 = .ok (.bipush 16, 2) := by decide +kernel
theorem dX4_init_7 : decode cX4_init 7 = .ok (.newarray .long, 2) := by decide +kernel
theorem dX4_init_9 : decode cX4_init 9 = .ok (.putfield 9, 3) := by decide +kernel
theorem dX4_init_12 : decode cX4_init 12 = .ok (.aload_n 0, 1) := by decide +kernel
theorem dX4_init_13 : decode cX4_init 13 = .ok (.bipush 16, 2) := by decide +kernel
theorem dX4_init_15 : decode cX4_init 15 = .ok (.newarray .int, 2) := by decide +kernel
theorem dX4_init_17 : decode cX4_init 17 = .ok (.putfield 15, 3) := by decide +kernel
theorem dX4_init_20 : decode cX4_init 20 = .ok (.aload_n 0, 1) := by decide +kernel
theorem dX4_init_21 : decode cX4_init 21 = .ok (.bipush 16, 2) := by decide +kernel
theorem dX4_init_23 : decode cX4_init 23 = .ok (.newarray .int, 2) := by decide +kernel
theorem dX4_init_25 : decode cX4_init 25 = .ok (.putfield 19, 3) := by decide +kernel
theorem dX4_init_28 : decode cX4_init 28 = .ok (.aload_n 0, 1) := by decide +kernel
theorem dX4_init_29 : decode cX4_init 29 = .ok (.bipush 10, 2) := by decide +kernel
theorem dX4_init_31 : decode cX4_init 31 = .ok (.newarray .int, 2) := by decide +kernel
theorem dX4_init_33 : decode cX4_init 33 = .ok (.putfield 22, 3) := by decide +kernel
theorem dX4_init_36 : decode cX4_init 36 = .ok (.aload_n 0, 1) := by decide +kernel
theorem dX4_init_37 : decode cX4_init 37 = .ok (.new 25, 3) := by decide +kernel
theorem dX4_init_40 : decode cX4_init 40 = .ok (.dup, 1) := by decide +kernel
theorem dX4_init_41 : decode cX4_init 41 = .ok (.bipush 16, 2) := by decide +kernel
theorem dX4_init_43 : decode cX4_init 43 = .ok (.iconst 4, 1) := by decide +kernel
theorem dX4_init_44 : decode cX4_init 44 = .ok (.invokespecial 27, 3) := by decide +kernel
theorem dX4_init_47 : decode cX4_init 47 = .ok (.putfield 30, 3) := by decide +kernel
theorem dX4_init_50 : decode cX4_init 50 = .ok (.aload_n 0, 1) := by decide +kernel
theorem dX4_init_51 : decode cX4_init 51 = .ok (.new 25, 3) := by decide +kernel
theorem dX4_init_54 : decode cX4_init 54 = .ok (.dup, 1) := by decide +kernel
theorem dX4_init_55 : decode cX4_init 55 = .ok (.bipush 16, 2) := by decide +kernel
theorem dX4_init_57 : decode cX4_init 57 = .ok (.bipush 16, 2) := by decide +kernel
theorem dX4_init_59 : decode cX4_init 59 = .ok (.invokespecial 27, 3) := by decide +kernel
theorem dX4_init_62 : decode cX4_init 62 = .ok (.putfield 34, 3) := by decide +kernel
theorem dX4_init_65 : decode cX4_init 65 = .ok (.aload_n 0, 1) := by decide +kernel
theorem dX4_init_66 : decode cX4_init 66 = .ok (.new 25, 3) := by decide +kernel
theorem dX4_init_69 : decode cX4_init 69 = .ok (.dup, 1) := by decide +kernel
theorem dX4_init_70 : decode cX4_init 70 = .ok (.bipush 16, 2) := by decide +kernel
theorem dX4_init_72 : decode cX4_init 72 = .ok (.bipush 10, 2) := by decide +kernel
theorem dX4_init_74 : decode cX4_init 74 = .ok (.invokespecial 27, 3) := by decide +kernel
theorem dX4_init_77 : decode cX4_init 77 = .ok (.putfield 37, 3) := by decide +kernel
theorem dX4_init_80 : decode cX4_init 80 = .ok (.aload_n 0, 1) := by decide +kernel
theorem dX4_init_81 : decode cX4_init 81 = .ok (.new 25, 3) := by decide +kernel
theorem dX4_init_84 : decode cX4_init 84 = .ok (.dup, 1) := by decide +kernel
theorem dX4_init_85 : decode cX4_init 85 = .ok (.bipush 16, 2) := by decide +kernel
theorem dX4_init_87 : decode cX4_init 87 = .ok (.bipush 10, 2) := by decide +kernel
theorem dX4_init_89 : decode cX4_init 89 = .ok (.invokespecial 27, 3) := by decide +kernel
theorem dX4_init_92 : decode cX4_init 92 = .ok (.putfield 40, 3) := by decide +kernel
theorem dX4_init_95 : decode cX4_init 95 = .ok (.aload_n 0, 1) := by decide +kernel
theorem dX4_init_96 : decode cX4_init 96 = .ok (.new 43, 3) := by decide +kernel
theorem dX4_init_99 : decode cX4_init 99 = .ok (.dup, 1) := by decide +kernel
theorem dX4_init_100 : decode cX4_init 100 = .ok (.invokespecial 45, 3) := by decide +kernel
theorem dX4_init_103 : decode cX4_init 103 = .ok (.putfield 46, 3) := by decide +kernel
theorem dX4_init_106 : decode cX4_init 106 = .ok (.aload_n 0, 1) := by decide +kernel
theorem dX4_init_107 : decode cX4_init 107 = .ok (.new 43, 3) := by decide +kernel
theorem dX4_init_110 : decode cX4_init 110 = .ok (.dup, 1) := by decide +kernel
theorem dX4_init_111 : decode cX4_init 111 = .ok (.invokespecial 45, 3) := by decide +kernel
theorem dX4_init_114 : decode cX4_init 114 = .ok (.putfield 50, 3) := by decide +kernel
theorem dX4_init_117 : decode cX4_init 117 = .ok (.aload_n 0, 1) := by decide +kernel
theorem dX4_init_118 : decode cX4_init 118 = .ok (.new 53, 3) := by decide +kernel
theorem dX4_init_121 : decode cX4_init 121 = .ok (.dup, 1) := by decide +kernel
theorem dX4_init_122 : decode cX4_init 122 = .ok (.invokespecial 55, 3) := by decide +kernel
theorem dX4_init_125 : decode cX4_init 125 = .ok (.putfield 56, 3) := by decide +kernel
theorem dX4_init_128 : decode cX4_init 128 = .ok (.return_, 1) := by decide +kernel
theorem cw_X4_oi : Cond.methodLink RX4 3 Lib.objectInit ∈ ev_wd := by decide +kernel
theorem cw_X4_f9 : Cond.fieldLink RX4 9 RX4 "names" "[J" ∈ ev_wd := by decide +kernel
theorem cw_X4_f15 : Cond.fieldLink RX4 15 RX4 "kitchens" "[I" ∈ ev_wd := by decide +kernel
theorem cw_X4_f19 : Cond.fieldLink RX4 19 RX4 "limits" "[I" ∈ ev_wd := by decide +kernel
theorem cw_X4_f22 : Cond.fieldLink RX4 22 RX4 "topics" "[I" ∈ ev_wd := by decide +kernel
theorem cw_X4_c25 : Cond.classLink RX4 25 RX8 ∈ ev_wd := by decide +kernel
theorem cw_X4_m27 : Cond.methodLink RX4 27 yX8_init ∈ ev_wd := by decide +kernel
theorem cw_X4_f30 : Cond.fieldLink RX4 30 RX4 "tastes" "LPancakePanel$Table;" ∈ ev_wd := by decide +kernel
theorem cw_X4_f34 : Cond.fieldLink RX4 34 RX4 "together" "LPancakePanel$Table;" ∈ ev_wd := by decide +kernel
theorem cw_X4_f37 : Cond.fieldLink RX4 37 RX4 "bids" "LPancakePanel$Table;" ∈ ev_wd := by decide +kernel
theorem cw_X4_f40 : Cond.fieldLink RX4 40 RX4 "declared" "LPancakePanel$Table;" ∈ ev_wd := by decide +kernel
theorem cw_X4_c43 : Cond.classLink RX4 43 RX5 ∈ ev_wd := by decide +kernel
theorem cw_X4_n45 : Cond.methodLinkNest RX4 45 yX5_init "PancakePanel" ∈ ev_wd := by decide +kernel
theorem cw_X4_f46 : Cond.fieldLink RX4 46 RX4 "cooks" "LPancakePanel$PersonLists;" ∈ ev_wd := by decide +kernel
theorem cw_X4_f50 : Cond.fieldLink RX4 50 RX4 "seats" "LPancakePanel$PersonLists;" ∈ ev_wd := by decide +kernel
theorem cw_X4_c53 : Cond.classLink RX4 53 RX6 ∈ ev_wd := by decide +kernel
theorem cw_X4_n55 : Cond.methodLinkNest RX4 55 yX6_init "PancakePanel" ∈ ev_wd := by decide +kernel
theorem cw_X4_f56 : Cond.fieldLink RX4 56 RX4 "scores" "LPancakePanel$ScoreSheet;" ∈ ev_wd := by decide +kernel
theorem cw_X4 : Cond.instantiable RX4 18 ∈ ev_wd ∧ Cond.initialized RX4 ∈ ev_wd ∧ Cond.instanceMethod yX4_init ∈ ev_wd ∧ Cond.code yX4_init cX4_init 1 none ∈ ev_wd := by decide +kernel
theorem cp_X4 : yX4_init.cls ≠ "java/lang/invoke/MethodHandle" ∧ yX4_init.cls ≠ "java/lang/invoke/VarHandle" ∧ (parseMethodDescriptor yX4_init.desc).map (fun d => d.parameters.length) = some 0 := by decide +kernel
theorem cd_X4 : ∀ j, j < 18 → defaultValue (tyX4 j) = vp_V [.int 0, .int 0, .int 0, .int 0, .int 0, .int 0, .int 0, .null, .null, .null, .null, .null, .null, .null, .null, .null, .null, .null] j := ct_dflt _ _ _ rfl
theorem dX5_init_0 : decode cX5_init 0 = .ok (.aload_n 0, 1) := by decide +kernel
theorem dX5_init_1 : decode cX5_init 1 = .ok (.invokespecial 3, 3) := by decide +kernel
theorem dX5_init_4 : decode cX5_init 4 = .ok (.aload_n 0, 1) := by decide +kernel
theorem dX5_init_5 : decode cX5_init 5 = .ok (.bipush 10, 2) := by decide +kernel
theorem dX5_init_7 : decode cX5_init 7 = .ok (.newarray .int, 2) := by decide +kernel
theorem dX5_init_9 : decode cX5_init 9 = .ok (.putfield 9, 3) := by decide +kernel
theorem dX5_init_12 : decode cX5_init 12 = .ok (.aload_n 0, 1) := by decide +kernel
theorem dX5_init_13 : decode cX5_init 13 = .ok (.bipush 30, 2) := by decide +kernel
theorem dX5_init_15 : decode cX5_init 15 = .ok (.newarray .int, 2) := by decide +kernel
theorem dX5_init_17 : decode cX5_init 17 = .ok (.putfield 15, 3) := by decide +kernel
theorem dX5_init_20 : decode cX5_init 20 = .ok (.return_, 1) := by decide +kernel
theorem cw_X5_oi : Cond.methodLink RX5 3 Lib.objectInit ∈ ev_wd := by decide +kernel
theorem cw_X5_f9 : Cond.fieldLink RX5 9 RX5 "sizes" "[I" ∈ ev_wd := by decide +kernel
theorem cw_X5_f15 : Cond.fieldLink RX5 15 RX5 "members" "[I" ∈ ev_wd := by decide +kernel
theorem cw_X5 : Cond.instantiable RX5 2 ∈ ev_wd ∧ Cond.initialized RX5 ∈ ev_wd ∧ Cond.instanceMethod yX5_init ∈ ev_wd ∧ Cond.code yX5_init cX5_init 1 none ∈ ev_wd := by decide +kernel
theorem cp_X5 : yX5_init.cls ≠ "java/lang/invoke/MethodHandle" ∧ yX5_init.cls ≠ "java/lang/invoke/VarHandle" ∧ (parseMethodDescriptor yX5_init.desc).map (fun d => d.parameters.length) = some 0 := by decide +kernel
theorem cd_X5 : ∀ j, j < 2 → defaultValue (tyX5 j) = vp_V [.null, .null] j := ct_dflt _ _ _ rfl
theorem dX6_init_0 : decode cX6_init 0 = .ok (.aload_n 0, 1) := by decide +kernel
theorem dX6_init_1 : decode cX6_init 1 = .ok (.invokespecial 3, 3) := by decide +kernel
theorem dX6_init_4 : decode cX6_init 4 = .ok (.aload_n 0, 1) := by decide +kernel
theorem dX6_init_5 : decode cX6_init 5 = .ok (.new 9, 3) := by decide +kernel
theorem dX6_init_8 : decode cX6_init 8 = .ok (.dup, 1) := by decide +kernel
theorem dX6_init_9 : decode cX6_init 9 = .ok (.bipush 16, 2) := by decide +kernel
theorem dX6_init_11 : decode cX6_init 11 = .ok (.bipush 10, 2) := by decide +kernel
theorem dX6_init_13 : decode cX6_init 13 = .ok (.invokespecial 11, 3) := by decide +kernel
theorem dX6_init_16 : decode cX6_init 16 = .ok (.putfield 14, 3) := by decide +kernel
theorem dX6_init_19 : decode cX6_init 19 = .ok (.return_, 1) := by decide +kernel
theorem cw_X6_oi : Cond.methodLink RX6 3 Lib.objectInit ∈ ev_wd := by decide +kernel
theorem cw_X6_c9 : Cond.classLink RX6 9 RX8 ∈ ev_wd := by decide +kernel
theorem cw_X6_m11 : Cond.methodLink RX6 11 yX8_init ∈ ev_wd := by decide +kernel
theorem cw_X6_f14 : Cond.fieldLink RX6 14 RX6 "table" "LPancakePanel$Table;" ∈ ev_wd := by decide +kernel
theorem cw_X6 : Cond.instantiable RX6 5 ∈ ev_wd ∧ Cond.initialized RX6 ∈ ev_wd ∧ Cond.instanceMethod yX6_init ∈ ev_wd ∧ Cond.code yX6_init cX6_init 1 none ∈ ev_wd := by decide +kernel
theorem cp_X6 : yX6_init.cls ≠ "java/lang/invoke/MethodHandle" ∧ yX6_init.cls ≠ "java/lang/invoke/VarHandle" ∧ (parseMethodDescriptor yX6_init.desc).map (fun d => d.parameters.length) = some 0 := by decide +kernel
theorem cd_X6 : ∀ j, j < 5 → defaultValue (tyX6 j) = vp_V [.null, .int 0, .int 0, .int 0, .int 0] j := ct_dflt _ _ _ rfl
theorem dX7_init_0 : decode cX7_init 0 = .ok (.aload_n 0, 1) := by decide +kernel
theorem dX7_init_1 : decode cX7_init 1 = .ok (.invokespecial 3, 3) := by decide +kernel
theorem dX7_init_4 : decode cX7_init 4 = .ok (.aload_n 0, 1) := by decide +kernel
theorem dX7_init_5 : decode cX7_init 5 = .ok (.new 9, 3) := by decide +kernel
theorem dX7_init_8 : decode cX7_init 8 = .ok (.dup, 1) := by decide +kernel
theorem dX7_init_9 : decode cX7_init 9 = .ok (.invokespecial 11, 3) := by decide +kernel
theorem dX7_init_12 : decode cX7_init 12 = .ok (.putfield 12, 3) := by decide +kernel
theorem dX7_init_15 : decode cX7_init 15 = .ok (.aload_n 0, 1) := by decide +kernel
theorem dX7_init_16 : decode cX7_init 16 = .ok (.iconst (-1), 1) := by decide +kernel
theorem dX7_init_17 : decode cX7_init 17 = .ok (.putfield 18, 3) := by decide +kernel
theorem dX7_init_20 : decode cX7_init 20 = .ok (.aload_n 0, 1) := by decide +kernel
theorem dX7_init_21 : decode cX7_init 21 = .ok (.new 22, 3) := by decide +kernel
theorem dX7_init_24 : decode cX7_init 24 = .ok (.dup, 1) := by decide +kernel
theorem dX7_init_25 : decode cX7_init 25 = .ok (.invokespecial 24, 3) := by decide +kernel
theorem dX7_init_28 : decode cX7_init 28 = .ok (.putfield 25, 3) := by decide +kernel
theorem dX7_init_31 : decode cX7_init 31 = .ok (.aload_n 0, 1) := by decide +kernel
theorem dX7_init_32 : decode cX7_init 32 = .ok (.iconst 2, 1) := by decide +kernel
theorem dX7_init_33 : decode cX7_init 33 = .ok (.newarray .int, 2) := by decide +kernel
theorem dX7_init_35 : decode cX7_init 35 = .ok (.putfield 29, 3) := by decide +kernel
theorem dX7_init_38 : decode cX7_init 38 = .ok (.aload_n 0, 1) := by decide +kernel
theorem dX7_init_39 : decode cX7_init 39 = .ok (.iconst 2, 1) := by decide +kernel
theorem dX7_init_40 : decode cX7_init 40 = .ok (.newarray .int, 2) := by decide +kernel
theorem dX7_init_42 : decode cX7_init 42 = .ok (.putfield 33, 3) := by decide +kernel
theorem dX7_init_45 : decode cX7_init 45 = .ok (.return_, 1) := by decide +kernel
theorem cw_X7_oi : Cond.methodLink RX7 3 Lib.objectInit ∈ ev_wd := by decide +kernel
theorem cw_X7_c9 : Cond.classLink RX7 9 RX4 ∈ ev_wd := by decide +kernel
theorem cw_X7_n11 : Cond.methodLinkNest RX7 11 yX4_init "PancakePanel" ∈ ev_wd := by decide +kernel
theorem cw_X7_f12 : Cond.fieldLink RX7 12 RX7 "panel" "LPancakePanel$Panel;" ∈ ev_wd := by decide +kernel
theorem cw_X7_f18 : Cond.fieldLink RX7 18 RX7 "errorPosition" "I" ∈ ev_wd := by decide +kernel
theorem cw_X7_c22 : Cond.classLink RX7 22 RX9 ∈ ev_wd := by decide +kernel
theorem cw_X7_n24 : Cond.methodLinkNest RX7 24 yX9_init "PancakePanel" ∈ ev_wd := by decide +kernel
theorem cw_X7_f25 : Cond.fieldLink RX7 25 RX7 "tokens" "LPancakePanel$TokenRow;" ∈ ev_wd := by decide +kernel
theorem cw_X7_f29 : Cond.fieldLink RX7 29 RX7 "bodies" "[I" ∈ ev_wd := by decide +kernel
theorem cw_X7_f33 : Cond.fieldLink RX7 33 RX7 "passes" "[I" ∈ ev_wd := by decide +kernel
theorem cw_X7 : Cond.instantiable RX7 8 ∈ ev_wd ∧ Cond.initialized RX7 ∈ ev_wd ∧ Cond.instanceMethod yX7_init ∈ ev_wd ∧ Cond.code yX7_init cX7_init 1 none ∈ ev_wd := by decide +kernel
theorem cp_X7 : yX7_init.cls ≠ "java/lang/invoke/MethodHandle" ∧ yX7_init.cls ≠ "java/lang/invoke/VarHandle" ∧ (parseMethodDescriptor yX7_init.desc).map (fun d => d.parameters.length) = some 0 := by decide +kernel
theorem cd_X7 : ∀ j, j < 8 → defaultValue (tyX7 j) = vp_V [.null, .int 0, .int 0, .null, .null, .null, .int 0, .int 0] j := ct_dflt _ _ _ rfl
theorem dX8_init_0 : decode cX8_init 0 = .ok (.aload_n 0, 1) := by decide +kernel
theorem dX8_init_1 : decode cX8_init 1 = .ok (.invokespecial 1, 3) := by decide +kernel
theorem dX8_init_4 : decode cX8_init 4 = .ok (.aload_n 0, 1) := by decide +kernel
theorem dX8_init_5 : decode cX8_init 5 = .ok (.iconst 0, 1) := by decide +kernel
theorem dX8_init_6 : decode cX8_init 6 = .ok (.iload_n 1, 1) := by decide +kernel
theorem dX8_init_7 : decode cX8_init 7 = .ok (.invokestatic 7, 3) := by decide +kernel
theorem dX8_init_10 : decode cX8_init 10 = .ok (.putfield 13, 3) := by decide +kernel
theorem dX8_init_13 : decode cX8_init 13 = .ok (.aload_n 0, 1) := by decide +kernel
theorem dX8_init_14 : decode cX8_init 14 = .ok (.iconst 0, 1) := by decide +kernel
theorem dX8_init_15 : decode cX8_init 15 = .ok (.iload_n 2, 1) := by decide +kernel
theorem dX8_init_16 : decode cX8_init 16 = .ok (.invokestatic 7, 3) := by decide +kernel
theorem dX8_init_19 : decode cX8_init 19 = .ok (.putfield 19, 3) := by decide +kernel
theorem dX8_init_22 : decode cX8_init 22 = .ok (.aload_n 0, 1) := by decide +kernel
theorem dX8_init_23 : decode cX8_init 23 = .ok (.aload_n 0, 1) := by decide +kernel
theorem dX8_init_24 : decode cX8_init 24 = .ok (.getfield 13, 3) := by decide +kernel
theorem dX8_init_27 : decode cX8_init 27 = .ok (.aload_n 0, 1) := by decide +kernel
theorem dX8_init_28 : decode cX8_init 28 = .ok (.getfield 19, 3) := by decide +kernel
theorem dX8_init_31 : decode cX8_init 31 = .ok (.imul, 1) := by decide +kernel
theorem dX8_init_32 : decode cX8_init 32 = .ok (.newarray .int, 2) := by decide +kernel
theorem dX8_init_34 : decode cX8_init 34 = .ok (.putfield 22, 3) := by decide +kernel
theorem dX8_init_37 : decode cX8_init 37 = .ok (.return_, 1) := by decide +kernel
theorem cw_X8_oi : Cond.methodLink RX8 1 Lib.objectInit ∈ ev_wd := by decide +kernel
theorem cw_X8_x7 : Cond.methodLink RX8 7 Lib.Math.max.name ∈ ev_wd := by decide +kernel
theorem cw_X8_f13 : Cond.fieldLink RX8 13 RX8 "rows" "I" ∈ ev_wd := by decide +kernel
theorem cw_X8_f19 : Cond.fieldLink RX8 19 RX8 "columns" "I" ∈ ev_wd := by decide +kernel
theorem cw_X8_f22 : Cond.fieldLink RX8 22 RX8 "cells" "[I" ∈ ev_wd := by decide +kernel
theorem cw_X8 : Cond.instantiable RX8 3 ∈ ev_wd ∧ Cond.initialized RX8 ∈ ev_wd ∧ Cond.instanceMethod yX8_init ∈ ev_wd ∧ Cond.code yX8_init cX8_init 3 none ∈ ev_wd := by decide +kernel
theorem cp_X8 : yX8_init.cls ≠ "java/lang/invoke/MethodHandle" ∧ yX8_init.cls ≠ "java/lang/invoke/VarHandle" ∧ (parseMethodDescriptor yX8_init.desc).map (fun d => d.parameters.length) = some 2 := by decide +kernel
theorem cd_X8 : ∀ j, j < 3 → defaultValue (tyX8 j) = vp_V [.int 0, .int 0, .null] j := ct_dflt _ _ _ rfl
theorem dX9_init_0 : decode cX9_init 0 = .ok (.aload_n 0, 1) := by decide +kernel
theorem dX9_init_1 : decode cX9_init 1 = .ok (.invokespecial 3, 3) := by decide +kernel
theorem dX9_init_4 : decode cX9_init 4 = .ok (.aload_n 0, 1) := by decide +kernel
theorem dX9_init_5 : decode cX9_init 5 = .ok (.sipush 501, 3) := by decide +kernel
theorem dX9_init_8 : decode cX9_init 8 = .ok (.newarray .int, 2) := by decide +kernel
theorem dX9_init_10 : decode cX9_init 10 = .ok (.putfield 9, 3) := by decide +kernel
theorem dX9_init_13 : decode cX9_init 13 = .ok (.aload_n 0, 1) := by decide +kernel
theorem dX9_init_14 : decode cX9_init 14 = .ok (.sipush 501, 3) := by decide +kernel
theorem dX9_init_17 : decode cX9_init 17 = .ok (.newarray .int, 2) := by decide +kernel
theorem dX9_init_19 : decode cX9_init 19 = .ok (.putfield 15, 3) := by decide +kernel
theorem dX9_init_22 : decode cX9_init 22 = .ok (.aload_n 0, 1) := by decide +kernel
theorem dX9_init_23 : decode cX9_init 23 = .ok (.sipush 501, 3) := by decide +kernel
theorem dX9_init_26 : decode cX9_init 26 = .ok (.newarray .long, 2) := by decide +kernel
theorem dX9_init_28 : decode cX9_init 28 = .ok (.putfield 18, 3) := by decide +kernel
theorem dX9_init_31 : decode cX9_init 31 = .ok (.return_, 1) := by decide +kernel
theorem cw_X9_oi : Cond.methodLink RX9 3 Lib.objectInit ∈ ev_wd := by decide +kernel
theorem cw_X9_f9 : Cond.fieldLink RX9 9 RX9 "kinds" "[I" ∈ ev_wd := by decide +kernel
theorem cw_X9_f15 : Cond.fieldLink RX9 15 RX9 "starts" "[I" ∈ ev_wd := by decide +kernel
theorem cw_X9_f18 : Cond.fieldLink RX9 18 RX9 "values" "[J" ∈ ev_wd := by decide +kernel
theorem cw_X9 : Cond.instantiable RX9 5 ∈ ev_wd ∧ Cond.initialized RX9 ∈ ev_wd ∧ Cond.instanceMethod yX9_init ∈ ev_wd ∧ Cond.code yX9_init cX9_init 1 none ∈ ev_wd := by decide +kernel
theorem cp_X9 : yX9_init.cls ≠ "java/lang/invoke/MethodHandle" ∧ yX9_init.cls ≠ "java/lang/invoke/VarHandle" ∧ (parseMethodDescriptor yX9_init.desc).map (fun d => d.parameters.length) = some 0 := by decide +kernel
theorem cd_X9 : ∀ j, j < 5 → defaultValue (tyX9 j) = vp_V [.null, .null, .null, .int 0, .int 0] j := ct_dflt _ _ _ rfl
theorem dX10_init_0 : decode cX10_init 0 = .ok (.aload_n 0, 1) := by decide +kernel
theorem dX10_init_1 : decode cX10_init 1 = .ok (.invokespecial 1, 3) := by decide +kernel
theorem dX10_init_4 : decode cX10_init 4 = .ok (.aload_n 0, 1) := by decide +kernel
theorem dX10_init_5 : decode cX10_init 5 = .ok (.new 7, 3) := by decide +kernel
theorem dX10_init_8 : decode cX10_init 8 = .ok (.dup, 1) := by decide +kernel
theorem dX10_init_9 : decode cX10_init 9 = .ok (.sipush 500, 3) := by decide +kernel
theorem dX10_init_12 : decode cX10_init 12 = .ok (.invokespecial 11, 3) := by decide +kernel
theorem dX10_init_15 : decode cX10_init 15 = .ok (.putfield 14, 3) := by decide +kernel
theorem dX10_init_18 : decode cX10_init 18 = .ok (.aload_n 0, 1) := by decide +kernel
theorem dX10_init_19 : decode cX10_init 19 = .ok (.new 7, 3) := by decide +kernel
theorem dX10_init_22 : decode cX10_init 22 = .ok (.dup, 1) := by decide +kernel
theorem dX10_init_23 : decode cX10_init 23 = .ok (.bipush 64, 2) := by decide +kernel
theorem dX10_init_25 : decode cX10_init 25 = .ok (.invokespecial 11, 3) := by decide +kernel
theorem dX10_init_28 : decode cX10_init 28 = .ok (.putfield 18, 3) := by decide +kernel
theorem dX10_init_31 : decode cX10_init 31 = .ok (.aload_n 0, 1) := by decide +kernel
theorem dX10_init_32 : decode cX10_init 32 = .ok (.new 21, 3) := by decide +kernel
theorem dX10_init_35 : decode cX10_init 35 = .ok (.dup, 1) := by decide +kernel
theorem dX10_init_36 : decode cX10_init 36 = .ok (.invokespecial 23, 3) := by decide +kernel
theorem dX10_init_39 : decode cX10_init 39 = .ok (.putfield 24, 3) := by decide +kernel
theorem dX10_init_42 : decode cX10_init 42 = .ok (.aload_n 0, 1) := by decide +kernel
theorem dX10_init_43 : decode cX10_init 43 = .ok (.new 28, 3) := by decide +kernel
theorem dX10_init_46 : decode cX10_init 46 = .ok (.dup, 1) := by decide +kernel
theorem dX10_init_47 : decode cX10_init 47 = .ok (.invokespecial 30, 3) := by decide +kernel
theorem dX10_init_50 : decode cX10_init 50 = .ok (.putfield 31, 3) := by decide +kernel
theorem dX10_init_53 : decode cX10_init 53 = .ok (.aload_n 0, 1) := by decide +kernel
theorem dX10_init_54 : decode cX10_init 54 = .ok (.new 28, 3) := by decide +kernel
theorem dX10_init_57 : decode cX10_init 57 = .ok (.dup, 1) := by decide +kernel
theorem dX10_init_58 : decode cX10_init 58 = .ok (.invokespecial 30, 3) := by decide +kernel
theorem dX10_init_61 : decode cX10_init 61 = .ok (.putfield 35, 3) := by decide +kernel
theorem dX10_init_64 : decode cX10_init 64 = .ok (.aload_n 0, 1) := by decide +kernel
theorem dX10_init_65 : decode cX10_init 65 = .ok (.new 38, 3) := by decide +kernel
theorem dX10_init_68 : decode cX10_init 68 = .ok (.dup, 1) := by decide +kernel
theorem dX10_init_69 : decode cX10_init 69 = .ok (.invokespecial 40, 3) := by decide +kernel
theorem dX10_init_72 : decode cX10_init 72 = .ok (.putfield 41, 3) := by decide +kernel
theorem dX10_init_75 : decode cX10_init 75 = .ok (.aload_n 0, 1) := by decide +kernel
theorem dX10_init_76 : decode cX10_init 76 = .ok (.iconst 2, 1) := by decide +kernel
theorem dX10_init_77 : decode cX10_init 77 = .ok (.anewarray 28, 3) := by decide +kernel
theorem dX10_init_80 : decode cX10_init 80 = .ok (.putfield 45, 3) := by decide +kernel
theorem dX10_init_83 : decode cX10_init 83 = .ok (.iconst 0, 1) := by decide +kernel
theorem dX10_init_84 : decode cX10_init 84 = .ok (.istore_n 1, 1) := by decide +kernel
theorem dX10_init_85 : decode cX10_init 85 = .ok (.iload_n 1, 1) := by decide +kernel
theorem dX10_init_86 : decode cX10_init 86 = .ok (.aload_n 0, 1) := by decide +kernel
theorem dX10_init_87 : decode cX10_init 87 = .ok (.getfield 45, 3) := by decide +kernel
theorem dX10_init_90 : decode cX10_init 90 = .ok (.arraylength, 1) := by decide +kernel
theorem dX10_init_91 : decode cX10_init 91 = .ok (.if_icmp .ge 22, 3) := by decide +kernel
theorem dX10_init_94 : decode cX10_init 94 = .ok (.aload_n 0, 1) := by decide +kernel
theorem dX10_init_95 : decode cX10_init 95 = .ok (.getfield 45, 3) := by decide +kernel
theorem dX10_init_98 : decode cX10_init 98 = .ok (.iload_n 1, 1) := by decide +kernel
theorem dX10_init_99 : decode cX10_init 99 = .ok (.new 28, 3) := by decide +kernel
theorem dX10_init_102 : decode cX10_init 102 = .ok (.dup, 1) := by decide +kernel
theorem dX10_init_103 : decode cX10_init 103 = .ok (.invokespecial 30, 3) := by decide +kernel
theorem dX10_init_106 : decode cX10_init 106 = .ok (.aastore, 1) := by decide +kernel
theorem dX10_init_107 : decode cX10_init 107 = .ok (.iinc 1 1, 3) := by decide +kernel
theorem dX10_init_110 : decode cX10_init 110 = .ok (.goto (-25), 3) := by decide +kernel
theorem dX10_init_113 : decode cX10_init 113 = .ok (.return_, 1) := by decide +kernel
theorem cw_X10_oi : Cond.methodLink RX10 1 Lib.objectInit ∈ ev_wd := by decide +kernel
theorem cw_X10_c7 : Cond.classLink RX10 7 RX1 ∈ ev_wd := by decide +kernel
theorem cw_X10_m11 : Cond.methodLink RX10 11 yX1_init ∈ ev_wd := by decide +kernel
theorem cw_X10_f14 : Cond.fieldLink RX10 14 RX10 "input" "LPancakePanel$ByteRow;" ∈ ev_wd := by decide +kernel
theorem cw_X10_f18 : Cond.fieldLink RX10 18 RX10 "output" "LPancakePanel$ByteRow;" ∈ ev_wd := by decide +kernel
theorem cw_X10_c21 : Cond.classLink RX10 21 RX7 ∈ ev_wd := by decide +kernel
theorem cw_X10_n23 : Cond.methodLinkNest RX10 23 yX7_init "PancakePanel" ∈ ev_wd := by decide +kernel
theorem cw_X10_f24 : Cond.fieldLink RX10 24 RX10 "parser" "LPancakePanel$SetupParser;" ∈ ev_wd := by decide +kernel
theorem cw_X10_c28 : Cond.classLink RX10 28 RX4 ∈ ev_wd := by decide +kernel
theorem cw_X10_n30 : Cond.methodLinkNest RX10 30 yX4_init "PancakePanel" ∈ ev_wd := by decide +kernel
theorem cw_X10_f31 : Cond.fieldLink RX10 31 RX10 "panel" "LPancakePanel$Panel;" ∈ ev_wd := by decide +kernel
theorem cw_X10_f35 : Cond.fieldLink RX10 35 RX10 "trial" "LPancakePanel$Panel;" ∈ ev_wd := by decide +kernel
theorem cw_X10_c38 : Cond.classLink RX10 38 RX2 ∈ ev_wd := by decide +kernel
theorem cw_X10_m40 : Cond.methodLink RX10 40 yX2_init ∈ ev_wd := by decide +kernel
theorem cw_X10_f41 : Cond.fieldLink RX10 41 RX10 "history" "LPancakePanel$History;" ∈ ev_wd := by decide +kernel
theorem cw_X10_f45 : Cond.fieldLink RX10 45 RX10 "slots" "[LPancakePanel$Panel;" ∈ ev_wd := by decide +kernel
theorem cw_X10 : Cond.instantiable RX10 7 ∈ ev_wd ∧ Cond.initialized RX10 ∈ ev_wd ∧ Cond.instanceMethod yX10_init ∈ ev_wd ∧ Cond.code yX10_init cX10_init 2 none ∈ ev_wd := by decide +kernel
theorem cp_X10 : yX10_init.cls ≠ "java/lang/invoke/MethodHandle" ∧ yX10_init.cls ≠ "java/lang/invoke/VarHandle" ∧ (parseMethodDescriptor yX10_init.desc).map (fun d => d.parameters.length) = some 0 := by decide +kernel
theorem cd_X10 : ∀ j, j < 7 → defaultValue (tyX10 j) = vp_V [.null, .null, .null, .null, .null, .null, .null] j := ct_dflt _ _ _ rfl
theorem dX11_init_0 : decode cX11_init 0 = .ok (.aload_n 0, 1) := by decide +kernel
theorem dX11_init_1 : decode cX11_init 1 = .ok (.invokespecial 1, 3) := by decide +kernel
theorem dX11_init_4 : decode cX11_init 4 = .ok (.aload_n 0, 1) := by decide +kernel
theorem dX11_init_5 : decode cX11_init 5 = .ok (.sipush 1042, 3) := by decide +kernel
theorem dX11_init_8 : decode cX11_init 8 = .ok (.newarray .int, 2) := by decide +kernel
theorem dX11_init_10 : decode cX11_init 10 = .ok (.putfield 9, 3) := by decide +kernel
theorem dX11_init_13 : decode cX11_init 13 = .ok (.aload_n 0, 1) := by decide +kernel
theorem dX11_init_14 : decode cX11_init 14 = .ok (.sipush 1042, 3) := by decide +kernel
theorem dX11_init_17 : decode cX11_init 17 = .ok (.newarray .int, 2) := by decide +kernel
theorem dX11_init_19 : decode cX11_init 19 = .ok (.putfield 13, 3) := by decide +kernel
theorem dX11_init_22 : decode cX11_init 22 = .ok (.aload_n 0, 1) := by decide +kernel
theorem dX11_init_23 : decode cX11_init 23 = .ok (.sipush 8336, 3) := by decide +kernel
theorem dX11_init_26 : decode cX11_init 26 = .ok (.newarray .int, 2) := by decide +kernel
theorem dX11_init_28 : decode cX11_init 28 = .ok (.putfield 16, 3) := by decide +kernel
theorem dX11_init_31 : decode cX11_init 31 = .ok (.aload_n 0, 1) := by decide +kernel
theorem dX11_init_32 : decode cX11_init 32 = .ok (.sipush 2084, 3) := by decide +kernel
theorem dX11_init_35 : decode cX11_init 35 = .ok (.newarray .int, 2) := by decide +kernel
theorem dX11_init_37 : decode cX11_init 37 = .ok (.putfield 19, 3) := by decide +kernel
theorem dX11_init_40 : decode cX11_init 40 = .ok (.aload_n 0, 1) := by decide +kernel
theorem dX11_init_41 : decode cX11_init 41 = .ok (.iconst 2, 1) := by decide +kernel
theorem dX11_init_42 : decode cX11_init 42 = .ok (.newarray .boolean, 2) := by decide +kernel
theorem dX11_init_44 : decode cX11_init 44 = .ok (.putfield 22, 3) := by decide +kernel
theorem dX11_init_47 : decode cX11_init 47 = .ok (.aload_n 0, 1) := by decide +kernel
theorem dX11_init_48 : decode cX11_init 48 = .ok (.sipush 500, 3) := by decide +kernel
theorem dX11_init_51 : decode cX11_init 51 = .ok (.newarray .byte, 2) := by decide +kernel
theorem dX11_init_53 : decode cX11_init 53 = .ok (.putfield 26, 3) := by decide +kernel
theorem dX11_init_56 : decode cX11_init 56 = .ok (.aload_n 0, 1) := by decide +kernel
theorem dX11_init_57 : decode cX11_init 57 = .ok (.iconst (-1), 1) := by decide +kernel
theorem dX11_init_58 : decode cX11_init 58 = .ok (.putfield 30, 3) := by decide +kernel
theorem dX11_init_61 : decode cX11_init 61 = .ok (.aload_n 0, 1) := by decide +kernel
theorem dX11_init_62 : decode cX11_init 62 = .ok (.bipush 10, 2) := by decide +kernel
theorem dX11_init_64 : decode cX11_init 64 = .ok (.newarray .boolean, 2) := by decide +kernel
theorem dX11_init_66 : decode cX11_init 66 = .ok (.putfield 34, 3) := by decide +kernel
theorem dX11_init_69 : decode cX11_init 69 = .ok (.aload_n 0, 1) := by decide +kernel
theorem dX11_init_70 : decode cX11_init 70 = .ok (.sipush 200, 3) := by decide +kernel
theorem dX11_init_73 : decode cX11_init 73 = .ok (.newarray .byte, 2) := by decide +kernel
theorem dX11_init_75 : decode cX11_init 75 = .ok (.putfield 37, 3) := by decide +kernel
theorem dX11_init_78 : decode cX11_init 78 = .ok (.return_, 1) := by decide +kernel
theorem cw_X11_oi : Cond.methodLink RX11 1 Lib.objectInit ∈ ev_wd := by decide +kernel
theorem cw_X11_f9 : Cond.fieldLink RX11 9 RX11 "now" "[I" ∈ ev_wd := by decide +kernel
theorem cw_X11_f13 : Cond.fieldLink RX11 13 RX11 "aside" "[I" ∈ ev_wd := by decide +kernel
theorem cw_X11_f16 : Cond.fieldLink RX11 16 RX11 "undos" "[I" ∈ ev_wd := by decide +kernel
theorem cw_X11_f19 : Cond.fieldLink RX11 19 RX11 "saved" "[I" ∈ ev_wd := by decide +kernel
theorem cw_X11_f22 : Cond.fieldLink RX11 22 RX11 "isSaved" "[Z" ∈ ev_wd := by decide +kernel
theorem cw_X11_f26 : Cond.fieldLink RX11 26 RX11 "buffer" "[B" ∈ ev_wd := by decide +kernel
theorem cw_X11_f30 : Cond.fieldLink RX11 30 RX11 "parseAt" "I" ∈ ev_wd := by decide +kernel
theorem cw_X11_f34 : Cond.fieldLink RX11 34 RX11 "isGivenUp" "[Z" ∈ ev_wd := by decide +kernel
theorem cw_X11_f37 : Cond.fieldLink RX11 37 RX11 "page" "[B" ∈ ev_wd := by decide +kernel
theorem cw_X11 : Cond.instantiable RX11 21 ∈ ev_wd ∧ Cond.initialized RX11 ∈ ev_wd ∧ Cond.instanceMethod yX11_init ∈ ev_wd ∧ Cond.code yX11_init cX11_init 1 none ∈ ev_wd := by decide +kernel
theorem cp_X11 : yX11_init.cls ≠ "java/lang/invoke/MethodHandle" ∧ yX11_init.cls ≠ "java/lang/invoke/VarHandle" ∧ (parseMethodDescriptor yX11_init.desc).map (fun d => d.parameters.length) = some 0 := by decide +kernel
theorem cd_X11 : ∀ j, j < 21 → defaultValue (tyX11 j) = vp_V [.int 0, .null, .null, .null, .null, .null, .int 0, .int 0, .null, .int 0, .int 0, .int 0, .int 0, .int 0, .int 0, .int 0, .int 0, .int 0, .null, .null, .int 0] j := ct_dflt _ _ _ rfl
set_option maxRecDepth 100000 in
set_option maxHeartbeats 2000000 in
theorem ct_X8 (hok : ev_ok sh_S G) (hρ : ∀ a : Nat, a < 312 → G.2.1 a = ev_lo G + a) {a R C : Nat} (hs : sh_T a R C) (hz : ∀ k, μ.1 (a + 1) k = 0) : ct_T G μ (yX8_init, cX8_init, 3, none, 1) [.int (nI R), .int (nI C)] a 2 (R * C) (.inr (6, [.int 0, .int 0, .null])) := by
  refine ct_of hok hρ (by decide +kernel) rfl (Nat.le_of_ble_eq_true rfl) (fun p e s m args below meth c C0 hlk hret hin2 hH ls hl => ?_)
  have hl : lv_has ls 3 [(0, .ref (ev_lo G + a)), (1, .int (nI R)), (2, .int (nI C))] := hl
  have hx := C0.2.2.1
  have hb := C0.2.2.2.1
  have hL : ∀ q ∈ ([] : List Loc), ev_lo G + a ≤ q.base := fun _ h => by cases h
  obtain ⟨k0, k1, k2, k3, k4, k5, k6, k7⟩ := hs
  have hRC : R * C ≤ 256 := Nat.mul_le_mul k6 k7
  refine lv_aload_n hx hb dX8_init_0 rfl (lv_at hl 0 rfl) ?_
  refine ct_oi C0 hl.1 cw_X8_oi cw_oi.1 cw_oi.2 ⟨Nat.le_of_ble_eq_true rfl, Nat.le_of_ble_eq_true rfl⟩ dX8_init_1 ?_
  refine lv_aload_n hx hb dX8_init_4 rfl (lv_at hl 0 rfl) ?_
  refine lv_iconst (v := 0) hx hb dX8_init_5 rfl ?_
  refine lv_iload_n hx hb dX8_init_6 rfl (lv_at hl 1 rfl) ?_
  refine va_mmax hx hb (C0.2.2.2.2.1.trans hl.1.symm) C0.2.2.2.2.2.1 (ct_w C0 _ cw_X8_x7) (ct_w C0 _ (ev_math_in _ (by simp [ev_math]))) (ct_w C0 _ (ev_math_in _ (by simp [ev_math]))) (ct_w C0 _ (ev_math_in _ (by simp [ev_math]))) (Nat.le_of_ble_eq_true rfl) (Nat.le_of_ble_eq_true rfl) (Nat.zero_le _) (Nat.zero_le _) dX8_init_7 ?_
  rw [ct_max R (by omega)]
  refine ct_putO C0 hH hL (by omega) (T := TX8) (N := 3) rfl 0 (by decide) cw_X8_f13 rfl hin2 (tyX8_ok 0 (by decide)) rfl rfl (Nat.le_of_ble_eq_true rfl) dX8_init_10 (fun H locs hH hL => ?_)
  refine lv_aload_n hx hb dX8_init_13 rfl (lv_at hl 0 rfl) ?_
  refine lv_iconst (v := 0) hx hb dX8_init_14 rfl ?_
  refine lv_iload_n hx hb dX8_init_15 rfl (lv_at hl 2 rfl) ?_
  refine va_mmax hx hb (C0.2.2.2.2.1.trans hl.1.symm) C0.2.2.2.2.2.1 (ct_w C0 _ cw_X8_x7) (ct_w C0 _ (ev_math_in _ (by simp [ev_math]))) (ct_w C0 _ (ev_math_in _ (by simp [ev_math]))) (ct_w C0 _ (ev_math_in _ (by simp [ev_math]))) (Nat.le_of_ble_eq_true rfl) (Nat.le_of_ble_eq_true rfl) (Nat.zero_le _) (Nat.zero_le _) dX8_init_16 ?_
  rw [ct_max C (by omega)]
  refine ct_putO C0 hH hL (by omega) (T := TX8) (N := 3) rfl 1 (by decide) cw_X8_f19 rfl hin2 (tyX8_ok 1 (by decide)) rfl rfl (Nat.le_of_ble_eq_true rfl) dX8_init_19 (fun H locs hH hL => ?_)
  have hH : ct_H G (va_up (ct_E G μ) a (.inr (6, [.int (nI R), .int (nI C), .null]))) a 1 s.heap H := hH
  refine lv_aload_n hx hb dX8_init_22 rfl (lv_at hl 0 rfl) ?_
  refine lv_aload_n hx hb dX8_init_23 rfl (lv_at hl 0 rfl) ?_
  refine ct_get C0 hH (Nat.le_refl a) (by omega) va_up_s (T := TX8) (N := 3) rfl 0 (by decide) cw_X8_f13 rfl (v := .int (nI R)) rfl dX8_init_24 ?_
  refine lv_aload_n hx hb dX8_init_27 rfl (lv_at hl 0 rfl) ?_
  refine ct_get C0 hH (Nat.le_refl a) (by omega) va_up_s (T := TX8) (N := 3) rfl 1 (by decide) cw_X8_f19 rfl (v := .int (nI C)) rfl dX8_init_28 ?_
  refine lv_imul hx hb dX8_init_31 ?_
  rw [no_mul]
  have he : ct_E G μ (a + 1) = .inl (G.2.2.2.1 10, R * C, .inl (fun _ => 0)) := by
    show ev_E sh_S G μ (a + 1) = _
    rw [ev_E_10 k1, show μ.1 (a + 1) = (fun _ => 0) from funext hz]
    show Sum.inl (G.2.2.2.1 10, sh_ln (a + 1), _) = _
    rw [k2]
  refine ct_arrO (ty := .int) (K := 10) (N := R * C) (t0 := 0) (z := .inl (fun _ => 0)) C0 hH rfl cw_ar.1 he (va_up_n (by omega)) (fun _ => rfl) rfl (fun _ _ h => h) (by rw [no_lt0 (by omega)]; exact id) (nI_clamp (by omega)) (by show R * C * 4 ≤ _; omega) (Nat.le_of_ble_eq_true rfl) (by show 0 + R * C ≤ R * C; omega) dX8_init_32 (fun H hH => ?_)
  refine ct_putO C0 hH hL (by omega) (T := TX8) (N := 3) rfl 2 (by decide) cw_X8_f22 rfl hin2 (tyX8_ok 2 (by decide)) rfl rfl (Nat.le_of_ble_eq_true rfl) dX8_init_34 (fun H locs hH hL => ?_)
  refine ct_ret C0 hH (fun b h1 h2 => ?_) hL hret hlk dX8_init_37 (Nat.le_of_ble_eq_true rfl) (by show 0 + R * C ≤ R * C; omega)
  refine (congrFun (va_up_id ?_) b).symm
  show Sum.inr (6, [Value.int (nI R), .int (nI C), .ref (ev_lo G + (a + 1))]) = ev_E sh_S G μ a
  rw [ev_E_obj (ci := 6) k0 (by decide)]
  have e1 : sh_pt a 2 = a + 1 := by unfold sh_pt; rw [k0]; rfl
  show _ = Sum.inr (6, [Value.int (sh_cs a 0), .int (sh_cs a 1), .ref (G.2.1 (sh_pt a 2))])
  rw [e1, hρ _ k5, k3, k4]
theorem ct_ez10 {b N : Nat} (h1 : sh_kd b = 10) (h2 : sh_ln b = N) (h3 : ∀ k, μ.1 b k = 0) : ct_E G μ b = .inl (G.2.2.2.1 10, N, .inl (fun _ => 0)) := by
  show ev_E sh_S G μ b = _
  rw [ev_E_10 h1, show μ.1 b = (fun _ => 0) from funext h3]
  show Sum.inl (G.2.2.2.1 10, sh_ln b, _) = _
  rw [h2]
theorem ct_ez11 {b N : Nat} (h1 : sh_kd b = 11) (h2 : sh_ln b = N) (h3 : ∀ k, μ.1 b k = 0) : ct_E G μ b = .inl (G.2.2.2.1 11, N, .inl (fun _ => 0)) := by
  show ev_E sh_S G μ b = _
  rw [ev_E_11 h1, show μ.1 b = (fun _ => 0) from funext h3]
  show Sum.inl (G.2.2.2.1 11, sh_ln b, _) = _
  rw [h2]
theorem ct_ez12 {b N : Nat} (h1 : sh_kd b = 12) (h2 : sh_ln b = N) (h3 : ∀ k, μ.1 b k = 0) : ct_E G μ b = .inl (G.2.2.2.1 12, N, .inl (fun _ => 0)) := by
  show ev_E sh_S G μ b = _
  rw [ev_E_12 h1, show μ.1 b = (fun _ => 0) from funext h3]
  show Sum.inl (G.2.2.2.1 12, sh_ln b, _) = _
  rw [h2]
theorem ct_ez13 {b N : Nat} (h1 : sh_kd b = 13) (h2 : sh_ln b = N) (h3 : ∀ k, μ.2.1 b k = 0) : ct_E G μ b = .inl (G.2.2.2.1 13, N, .inr (.inl (fun _ => 0))) := by
  show ev_E sh_S G μ b = _
  rw [ev_E_13 h1, show μ.2.1 b = (fun _ => 0) from funext h3]
  show Sum.inl (G.2.2.2.1 13, sh_ln b, _) = _
  rw [h2]
set_option maxRecDepth 100000 in
set_option maxHeartbeats 2000000 in
theorem ct_X5 (hok : ev_ok sh_S G) (hρ : ∀ a : Nat, a < 312 → G.2.1 a = ev_lo G + a) {a : Nat} (hs : sh_PL a) (hk : sh_kd a = 3) (hz : ∀ b k, a ≤ b → b < a + 3 → μ.1 b k = 0 ∧ μ.2.1 b k = 0) : ct_T G μ (yX5_init, cX5_init, 1, none, 1) [] a 3 (40) (.inr (3, [.null, .null])) := by
  refine ct_of hok hρ (by decide +kernel) rfl (Nat.le_of_ble_eq_true rfl) (fun p e s m args below meth c C0 hlk hret hin2 hH ls hl => ?_)
  have hl : lv_has ls 1 [(0, .ref (ev_lo G + a))] := hl
  have hx := C0.2.2.1
  have hb := C0.2.2.2.1
  have hL : ∀ q ∈ ([] : List Loc), ev_lo G + a ≤ q.base := fun _ h => by cases h
  obtain ⟨k0, k1, k2, k3, k4, k5⟩ := hs
  refine lv_aload_n hx hb dX5_init_0 rfl (lv_at hl 0 rfl) ?_
  refine ct_oi C0 hl.1 cw_X5_oi cw_oi.1 cw_oi.2 ⟨Nat.le_of_ble_eq_true rfl, Nat.le_of_ble_eq_true rfl⟩ dX5_init_1 ?_
  refine lv_aload_n hx hb dX5_init_4 rfl (lv_at hl 0 rfl) ?_
  refine lv_bipush (v := 10) hx hb dX5_init_5 (by decide) ?_
  refine ct_arrO (ty := .int) (K := 10) (N := 10) (t0 := 0) (z := .inl (fun _ => 0)) C0 hH rfl cw_ar.1 (ct_ez10 k1 k2 (fun k => (hz _ k (by omega) (by omega)).1)) (va_up_n (by omega)) (fun _ => rfl) rfl (fun _ _ h => h) (by decide) (by decide) (Nat.le_of_ble_eq_true rfl) (Nat.le_of_ble_eq_true rfl) (Nat.le_of_ble_eq_true rfl) dX5_init_7 (fun H hH => ?_)
  refine ct_putO C0 hH hL (by omega) (T := TX5) (N := 2) rfl 0 (by decide) cw_X5_f9 rfl hin2 (tyX5_ok 0 (by decide)) rfl rfl (Nat.le_of_ble_eq_true rfl) dX5_init_9 (fun H locs hH hL => ?_)
  have hH : ct_H G (va_up (ct_E G μ) a (.inr (3, [.ref (ev_lo G + (a + 1)), .null]))) a 2 s.heap H := hH
  refine lv_aload_n hx hb dX5_init_12 rfl (lv_at hl 0 rfl) ?_
  refine lv_bipush (v := 30) hx hb dX5_init_13 (by decide) ?_
  refine ct_arrO (ty := .int) (K := 10) (N := 30) (t0 := 0) (z := .inl (fun _ => 0)) C0 hH rfl cw_ar.1 (ct_ez10 k3 k4 (fun k => (hz _ k (by omega) (by omega)).1)) (va_up_n (by omega)) (fun _ => rfl) rfl (fun _ _ h => h) (by decide) (by decide) (Nat.le_of_ble_eq_true rfl) (Nat.le_of_ble_eq_true rfl) (Nat.le_of_ble_eq_true rfl) dX5_init_15 (fun H hH => ?_)
  refine ct_putO C0 hH hL (by omega) (T := TX5) (N := 2) rfl 1 (by decide) cw_X5_f15 rfl hin2 (tyX5_ok 1 (by decide)) rfl rfl (Nat.le_of_ble_eq_true rfl) dX5_init_17 (fun H locs hH hL => ?_)
  have hH : ct_H G (va_up (ct_E G μ) a (.inr (3, [.ref (ev_lo G + (a + 1)), .ref (ev_lo G + (a + 2))]))) a 3 s.heap H := hH
  refine ct_ret C0 hH (fun b h1 h2 => ?_) hL hret hlk dX5_init_20 (Nat.le_of_ble_eq_true rfl) (Nat.le_of_ble_eq_true rfl)
  refine (congrFun (va_up_id ?_) b).symm
  show Sum.inr (3, [Value.ref (ev_lo G + (a + 1)), .ref (ev_lo G + (a + 2))]) = ev_E sh_S G μ a
  rw [ev_E_obj (ci := 3) k0 (by decide)]
  have e0 : sh_pt a 0 = a + 1 := by unfold sh_pt; rw [k0]; rfl
  have e1 : sh_pt a 1 = a + 2 := by unfold sh_pt; rw [k0]; rfl
  show _ = Sum.inr (3, [Value.ref (G.2.1 (sh_pt a 0)), .ref (G.2.1 (sh_pt a 1))])
  rw [e0, e1, hρ _ (by omega), hρ _ (by omega)]
set_option maxRecDepth 100000 in
set_option maxHeartbeats 2000000 in
theorem ct_X6 (hok : ev_ok sh_S G) (hρ : ∀ a : Nat, a < 312 → G.2.1 a = ev_lo G + a) {a : Nat} (k0 : sh_kd a = 4) (hs : sh_T (a + 1) 16 10) (hz : ∀ b k, a ≤ b → b < a + 3 → μ.1 b k = 0 ∧ μ.2.1 b k = 0) : ct_T G μ (yX6_init, cX6_init, 1, none, 2) [] a 3 (163) (.inr (4, [.null, .int 0, .int 0, .int 0, .int 0])) := by
  refine ct_of hok hρ (by decide +kernel) rfl (Nat.le_of_ble_eq_true rfl) (fun p e s m args below meth c C0 hlk hret hin2 hH ls hl => ?_)
  have hl : lv_has ls 1 [(0, .ref (ev_lo G + a))] := hl
  have hx := C0.2.2.1
  have hb := C0.2.2.2.1
  have hL : ∀ q ∈ ([] : List Loc), ev_lo G + a ≤ q.base := fun _ h => by cases h
  refine lv_aload_n hx hb dX6_init_0 rfl (lv_at hl 0 rfl) ?_
  refine ct_oi C0 hl.1 cw_X6_oi cw_oi.1 cw_oi.2 ⟨Nat.le_of_ble_eq_true rfl, Nat.le_of_ble_eq_true rfl⟩ dX6_init_1 ?_
  refine lv_aload_n hx hb dX6_init_4 rfl (lv_at hl 0 rfl) ?_
  refine ct_new (μ := μ) C0 hH hL (fun b hb => va_up_n (by omega)) hl.1 (T9 := TX8) (N9 := 3) (ci := 6) rfl cw_X6_c9 cw_X8.1 cw_X8.2.1 tyX8_ok cd_X8 (ct_X8 (R := 16) (C := 10) hok hρ hs (fun k => (hz _ k (by omega) (by omega)).1)) (by decide) ⟨rfl, rfl⟩ (Or.inl cw_X6_m11) cw_X8.2.2.1 cw_X8.2.2.2 cp_X8 rfl ⟨Nat.le_of_ble_eq_true rfl, Nat.le_of_ble_eq_true rfl⟩ (Nat.le_of_ble_eq_true rfl) (Nat.le_of_ble_eq_true rfl) (Nat.le_of_ble_eq_true rfl) dX6_init_5 dX6_init_8 (pc2 := 13) (fun _ _ _ r h => by refine lv_bipush (v := nI 16) hx hb dX6_init_9 (by decide) ?_; refine lv_bipush (v := nI 10) hx hb dX6_init_11 (by decide) ?_; exact h) dX6_init_13 (fun H locs hH hL => ?_)
  refine ct_putO C0 hH hL (by omega) (T := TX6) (N := 5) rfl 0 (by decide) cw_X6_f14 rfl hin2 (tyX6_ok 0 (by decide)) rfl rfl (Nat.le_of_ble_eq_true rfl) dX6_init_16 (fun H locs hH hL => ?_)
  have hH : ct_H G (va_up (ct_E G μ) a (.inr (4, [.ref (ev_lo G + (a + 1)), .int 0, .int 0, .int 0, .int 0]))) a 3 s.heap H := hH
  refine ct_ret C0 hH (fun b h1 h2 => ?_) hL hret hlk dX6_init_19 (Nat.le_of_ble_eq_true rfl) (Nat.le_of_ble_eq_true rfl)
  refine (congrFun (va_up_id ?_) b).symm
  have h9 := hs.2.2.2.2.2.1
  show Sum.inr (4, [Value.ref (ev_lo G + (a + 1)), .int 0, .int 0, .int 0, .int 0]) = ev_E sh_S G μ a
  rw [ev_E_obj (ci := 4) k0 (by decide)]
  have e0 : sh_pt a 0 = a + 1 := by unfold sh_pt; rw [k0]; rfl
  have z : ∀ k, μ.1 a k = 0 := fun k => (hz a k (by omega) (by omega)).1
  show _ = Sum.inr (4, [Value.ref (G.2.1 (sh_pt a 0)), .int (μ.1 a 1), .int (μ.1 a 2), .int (μ.1 a 3), .int (μ.1 a 4)])
  rw [e0, hρ _ (by omega), z, z, z, z]
set_option maxRecDepth 100000 in
set_option maxHeartbeats 2000000 in
theorem ct_X4 (hok : ev_ok sh_S G) (hρ : ∀ a : Nat, a < 312 → G.2.1 a = ev_lo G + a) {a : Nat} (hp : a ∈ sh_B) (hz : ∀ b k, a ≤ b → b < a + 22 → μ.1 b k = 0 ∧ μ.2.1 b k = 0) : ct_T G μ (yX4_init, cX4_init, 1, none, 3) [] a 22 (962) (.inr (2, [.int 0, .int 0, .int 0, .int 0, .int 0, .int 0, .int 0, .null, .null, .null, .null, .null, .null, .null, .null, .null, .null, .null])) := by
  refine ct_of hok hρ (by decide +kernel) rfl (Nat.le_of_ble_eq_true rfl) (fun p e s m args below meth c C0 hlk hret hin2 hH ls hl => ?_)
  have hl : lv_has ls 1 [(0, .ref (ev_lo G + a))] := hl
  have hx := C0.2.2.1
  have hb := C0.2.2.2.1
  have hL : ∀ q ∈ ([] : List Loc), ev_lo G + a ≤ q.base := fun _ h => by cases h
  refine lv_aload_n hx hb dX4_init_0 rfl (lv_at hl 0 rfl) ?_
  refine ct_oi C0 hl.1 cw_X4_oi cw_oi.1 cw_oi.2 ⟨Nat.le_of_ble_eq_true rfl, Nat.le_of_ble_eq_true rfl⟩ dX4_init_1 ?_
  refine lv_aload_n hx hb dX4_init_4 rfl (lv_at hl 0 rfl) ?_
  refine lv_bipush (v := 16) hx hb dX4_init_5 (by decide) ?_
  refine ct_arrO (ty := .long) (K := 13) (N := 16) (t0 := 3) (z := .inr (.inl (fun _ => 0))) C0 hH rfl cw_ar.2.1 (ct_ez13 (sh_pan_kd a hp 1 (by decide)) (sh_pan_ln a hp 1 (by decide)) (fun k => (hz _ k (by omega) (by omega)).2)) (va_up_n (by omega)) (fun _ => rfl) rfl (fun _ _ h => h) (by decide) (by decide) (Nat.le_of_ble_eq_true rfl) (Nat.le_of_ble_eq_true rfl) (Nat.le_of_ble_eq_true rfl) dX4_init_7 (fun H hH => ?_)
  refine ct_putO C0 hH hL (by omega) (T := TX4) (N := 18) rfl 7 (by decide) cw_X4_f9 rfl hin2 (tyX4_ok 7 (by decide)) rfl rfl (Nat.le_of_ble_eq_true rfl) dX4_init_9 (fun H locs hH hL => ?_)
  have hH : ct_H G (va_up (ct_E G μ) a (.inr (2, [.int 0, .int 0, .int 0, .int 0, .int 0, .int 0, .int 0, .ref (ev_lo G + (a + 1)), .null, .null, .null, .null, .null, .null, .null, .null, .null, .null]))) a 2 s.heap H := hH
  refine lv_aload_n hx hb dX4_init_12 rfl (lv_at hl 0 rfl) ?_
  refine lv_bipush (v := 16) hx hb dX4_init_13 (by decide) ?_
  refine ct_arrO (ty := .int) (K := 10) (N := 16) (t0 := 0) (z := .inl (fun _ => 0)) C0 hH rfl cw_ar.1 (ct_ez10 (sh_pan_kd a hp 2 (by decide)) (sh_pan_ln a hp 2 (by decide)) (fun k => (hz _ k (by omega) (by omega)).1)) (va_up_n (by omega)) (fun _ => rfl) rfl (fun _ _ h => h) (by decide) (by decide) (Nat.le_of_ble_eq_true rfl) (Nat.le_of_ble_eq_true rfl) (Nat.le_of_ble_eq_true rfl) dX4_init_15 (fun H hH => ?_)
  refine ct_putO C0 hH hL (by omega) (T := TX4) (N := 18) rfl 8 (by decide) cw_X4_f15 rfl hin2 (tyX4_ok 8 (by decide)) rfl rfl (Nat.le_of_ble_eq_true rfl) dX4_init_17 (fun H locs hH hL => ?_)
  have hH : ct_H G (va_up (ct_E G μ) a (.inr (2, [.int 0, .int 0, .int 0, .int 0, .int 0, .int 0, .int 0, .ref (ev_lo G + (a + 1)), .ref (ev_lo G + (a + 2)), .null, .null, .null, .null, .null, .null, .null, .null, .null]))) a 3 s.heap H := hH
  refine lv_aload_n hx hb dX4_init_20 rfl (lv_at hl 0 rfl) ?_
  refine lv_bipush (v := 16) hx hb dX4_init_21 (by decide) ?_
  refine ct_arrO (ty := .int) (K := 10) (N := 16) (t0 := 0) (z := .inl (fun _ => 0)) C0 hH rfl cw_ar.1 (ct_ez10 (sh_pan_kd a hp 3 (by decide)) (sh_pan_ln a hp 3 (by decide)) (fun k => (hz _ k (by omega) (by omega)).1)) (va_up_n (by omega)) (fun _ => rfl) rfl (fun _ _ h => h) (by decide) (by decide) (Nat.le_of_ble_eq_true rfl) (Nat.le_of_ble_eq_true rfl) (Nat.le_of_ble_eq_true rfl) dX4_init_23 (fun H hH => ?_)
  refine ct_putO C0 hH hL (by omega) (T := TX4) (N := 18) rfl 9 (by decide) cw_X4_f19 rfl hin2 (tyX4_ok 9 (by decide)) rfl rfl (Nat.le_of_ble_eq_true rfl) dX4_init_25 (fun H locs hH hL => ?_)
  have hH : ct_H G (va_up (ct_E G μ) a (.inr (2, [.int 0, .int 0, .int 0, .int 0, .int 0, .int 0, .int 0, .ref (ev_lo G + (a + 1)), .ref (ev_lo G + (a + 2)), .ref (ev_lo G + (a + 3)), .null, .null, .null, .null, .null, .null, .null, .null]))) a 4 s.heap H := hH
  refine lv_aload_n hx hb dX4_init_28 rfl (lv_at hl 0 rfl) ?_
  refine lv_bipush (v := 10) hx hb dX4_init_29 (by decide) ?_
  refine ct_arrO (ty := .int) (K := 10) (N := 10) (t0 := 0) (z := .inl (fun _ => 0)) C0 hH rfl cw_ar.1 (ct_ez10 (sh_pan_kd a hp 4 (by decide)) (sh_pan_ln a hp 4 (by decide)) (fun k => (hz _ k (by omega) (by omega)).1)) (va_up_n (by omega)) (fun _ => rfl) rfl (fun _ _ h => h) (by decide) (by decide) (Nat.le_of_ble_eq_true rfl) (Nat.le_of_ble_eq_true rfl) (Nat.le_of_ble_eq_true rfl) dX4_init_31 (fun H hH => ?_)
  refine ct_putO C0 hH hL (by omega) (T := TX4) (N := 18) rfl 10 (by decide) cw_X4_f22 rfl hin2 (tyX4_ok 10 (by decide)) rfl rfl (Nat.le_of_ble_eq_true rfl) dX4_init_33 (fun H locs hH hL => ?_)
  have hH : ct_H G (va_up (ct_E G μ) a (.inr (2, [.int 0, .int 0, .int 0, .int 0, .int 0, .int 0, .int 0, .ref (ev_lo G + (a + 1)), .ref (ev_lo G + (a + 2)), .ref (ev_lo G + (a + 3)), .ref (ev_lo G + (a + 4)), .null, .null, .null, .null, .null, .null, .null]))) a 5 s.heap H := hH
  refine lv_aload_n hx hb dX4_init_36 rfl (lv_at hl 0 rfl) ?_
  refine ct_new (μ := μ) C0 hH hL (fun b hb => va_up_n (by omega)) hl.1 (T9 := TX8) (N9 := 3) (ci := 6) rfl cw_X4_c25 cw_X8.1 cw_X8.2.1 tyX8_ok cd_X8 (ct_X8 (R := 16) (C := 4) hok hρ (sh_T5 hp) (fun k => (hz _ k (by omega) (by omega)).1)) (by decide) ⟨rfl, rfl⟩ (Or.inl cw_X4_m27) cw_X8.2.2.1 cw_X8.2.2.2 cp_X8 rfl ⟨Nat.le_of_ble_eq_true rfl, Nat.le_of_ble_eq_true rfl⟩ (Nat.le_of_ble_eq_true rfl) (Nat.le_of_ble_eq_true rfl) (Nat.le_of_ble_eq_true rfl) dX4_init_37 dX4_init_40 (pc2 := 44) (fun _ _ _ r h => by refine lv_bipush (v := nI 16) hx hb dX4_init_41 (by decide) ?_; refine lv_iconst (v := nI 4) hx hb dX4_init_43 (by decide) ?_; exact h) dX4_init_44 (fun H locs hH hL => ?_)
  refine ct_putO C0 hH hL (by omega) (T := TX4) (N := 18) rfl 11 (by decide) cw_X4_f30 rfl hin2 (tyX4_ok 11 (by decide)) rfl rfl (Nat.le_of_ble_eq_true rfl) dX4_init_47 (fun H locs hH hL => ?_)
  have hH : ct_H G (va_up (ct_E G μ) a (.inr (2, [.int 0, .int 0, .int 0, .int 0, .int 0, .int 0, .int 0, .ref (ev_lo G + (a + 1)), .ref (ev_lo G + (a + 2)), .ref (ev_lo G + (a + 3)), .ref (ev_lo G + (a + 4)), .ref (ev_lo G + (a + 5)), .null, .null, .null, .null, .null, .null]))) a 7 s.heap H := hH
  refine lv_aload_n hx hb dX4_init_50 rfl (lv_at hl 0 rfl) ?_
  refine ct_new (μ := μ) C0 hH hL (fun b hb => va_up_n (by omega)) hl.1 (T9 := TX8) (N9 := 3) (ci := 6) rfl cw_X4_c25 cw_X8.1 cw_X8.2.1 tyX8_ok cd_X8 (ct_X8 (R := 16) (C := 16) hok hρ (sh_T7 hp) (fun k => (hz _ k (by omega) (by omega)).1)) (by decide) ⟨rfl, rfl⟩ (Or.inl cw_X4_m27) cw_X8.2.2.1 cw_X8.2.2.2 cp_X8 rfl ⟨Nat.le_of_ble_eq_true rfl, Nat.le_of_ble_eq_true rfl⟩ (Nat.le_of_ble_eq_true rfl) (Nat.le_of_ble_eq_true rfl) (Nat.le_of_ble_eq_true rfl) dX4_init_51 dX4_init_54 (pc2 := 59) (fun _ _ _ r h => by refine lv_bipush (v := nI 16) hx hb dX4_init_55 (by decide) ?_; refine lv_bipush (v := nI 16) hx hb dX4_init_57 (by decide) ?_; exact h) dX4_init_59 (fun H locs hH hL => ?_)
  refine ct_putO C0 hH hL (by omega) (T := TX4) (N := 18) rfl 12 (by decide) cw_X4_f34 rfl hin2 (tyX4_ok 12 (by decide)) rfl rfl (Nat.le_of_ble_eq_true rfl) dX4_init_62 (fun H locs hH hL => ?_)
  have hH : ct_H G (va_up (ct_E G μ) a (.inr (2, [.int 0, .int 0, .int 0, .int 0, .int 0, .int 0, .int 0, .ref (ev_lo G + (a + 1)), .ref (ev_lo G + (a + 2)), .ref (ev_lo G + (a + 3)), .ref (ev_lo G + (a + 4)), .ref (ev_lo G + (a + 5)), .ref (ev_lo G + (a + 7)), .null, .null, .null, .null, .null]))) a 9 s.heap H := hH
  refine lv_aload_n hx hb dX4_init_65 rfl (lv_at hl 0 rfl) ?_
  refine ct_new (μ := μ) C0 hH hL (fun b hb => va_up_n (by omega)) hl.1 (T9 := TX8) (N9 := 3) (ci := 6) rfl cw_X4_c25 cw_X8.1 cw_X8.2.1 tyX8_ok cd_X8 (ct_X8 (R := 16) (C := 10) hok hρ (sh_T9 hp) (fun k => (hz _ k (by omega) (by omega)).1)) (by decide) ⟨rfl, rfl⟩ (Or.inl cw_X4_m27) cw_X8.2.2.1 cw_X8.2.2.2 cp_X8 rfl ⟨Nat.le_of_ble_eq_true rfl, Nat.le_of_ble_eq_true rfl⟩ (Nat.le_of_ble_eq_true rfl) (Nat.le_of_ble_eq_true rfl) (Nat.le_of_ble_eq_true rfl) dX4_init_66 dX4_init_69 (pc2 := 74) (fun _ _ _ r h => by refine lv_bipush (v := nI 16) hx hb dX4_init_70 (by decide) ?_; refine lv_bipush (v := nI 10) hx hb dX4_init_72 (by decide) ?_; exact h) dX4_init_74 (fun H locs hH hL => ?_)
  refine ct_putO C0 hH hL (by omega) (T := TX4) (N := 18) rfl 13 (by decide) cw_X4_f37 rfl hin2 (tyX4_ok 13 (by decide)) rfl rfl (Nat.le_of_ble_eq_true rfl) dX4_init_77 (fun H locs hH hL => ?_)
  have hH : ct_H G (va_up (ct_E G μ) a (.inr (2, [.int 0, .int 0, .int 0, .int 0, .int 0, .int 0, .int 0, .ref (ev_lo G + (a + 1)), .ref (ev_lo G + (a + 2)), .ref (ev_lo G + (a + 3)), .ref (ev_lo G + (a + 4)), .ref (ev_lo G + (a + 5)), .ref (ev_lo G + (a + 7)), .ref (ev_lo G + (a + 9)), .null, .null, .null, .null]))) a 11 s.heap H := hH
  refine lv_aload_n hx hb dX4_init_80 rfl (lv_at hl 0 rfl) ?_
  refine ct_new (μ := μ) C0 hH hL (fun b hb => va_up_n (by omega)) hl.1 (T9 := TX8) (N9 := 3) (ci := 6) rfl cw_X4_c25 cw_X8.1 cw_X8.2.1 tyX8_ok cd_X8 (ct_X8 (R := 16) (C := 10) hok hρ (sh_T11 hp) (fun k => (hz _ k (by omega) (by omega)).1)) (by decide) ⟨rfl, rfl⟩ (Or.inl cw_X4_m27) cw_X8.2.2.1 cw_X8.2.2.2 cp_X8 rfl ⟨Nat.le_of_ble_eq_true rfl, Nat.le_of_ble_eq_true rfl⟩ (Nat.le_of_ble_eq_true rfl) (Nat.le_of_ble_eq_true rfl) (Nat.le_of_ble_eq_true rfl) dX4_init_81 dX4_init_84 (pc2 := 89) (fun _ _ _ r h => by refine lv_bipush (v := nI 16) hx hb dX4_init_85 (by decide) ?_; refine lv_bipush (v := nI 10) hx hb dX4_init_87 (by decide) ?_; exact h) dX4_init_89 (fun H locs hH hL => ?_)
  refine ct_putO C0 hH hL (by omega) (T := TX4) (N := 18) rfl 14 (by decide) cw_X4_f40 rfl hin2 (tyX4_ok 14 (by decide)) rfl rfl (Nat.le_of_ble_eq_true rfl) dX4_init_92 (fun H locs hH hL => ?_)
  have hH : ct_H G (va_up (ct_E G μ) a (.inr (2, [.int 0, .int 0, .int 0, .int 0, .int 0, .int 0, .int 0, .ref (ev_lo G + (a + 1)), .ref (ev_lo G + (a + 2)), .ref (ev_lo G + (a + 3)), .ref (ev_lo G + (a + 4)), .ref (ev_lo G + (a + 5)), .ref (ev_lo G + (a + 7)), .ref (ev_lo G + (a + 9)), .ref (ev_lo G + (a + 11)), .null, .null, .null]))) a 13 s.heap H := hH
  refine lv_aload_n hx hb dX4_init_95 rfl (lv_at hl 0 rfl) ?_
  refine ct_new (μ := μ) C0 hH hL (fun b hb => va_up_n (by omega)) hl.1 (T9 := TX5) (N9 := 2) (ci := 3) rfl cw_X4_c43 cw_X5.1 cw_X5.2.1 tyX5_ok cd_X5 (ct_X5 hok hρ (sh_PL13 hp) (sh_pan_kd a hp 13 (by decide)) (fun b k h1 h2 => hz b k (by omega) (by omega))) (by decide) ⟨rfl, rfl⟩ (Or.inr ⟨_, cw_X4_n45⟩) cw_X5.2.2.1 cw_X5.2.2.2 cp_X5 rfl ⟨Nat.le_of_ble_eq_true rfl, Nat.le_of_ble_eq_true rfl⟩ (Nat.le_of_ble_eq_true rfl) (Nat.le_of_ble_eq_true rfl) (Nat.le_of_ble_eq_true rfl) dX4_init_96 dX4_init_99 (pc2 := 100) (fun _ _ _ r h => by  exact h) dX4_init_100 (fun H locs hH hL => ?_)
  refine ct_putO C0 hH hL (by omega) (T := TX4) (N := 18) rfl 15 (by decide) cw_X4_f46 rfl hin2 (tyX4_ok 15 (by decide)) rfl rfl (Nat.le_of_ble_eq_true rfl) dX4_init_103 (fun H locs hH hL => ?_)
  have hH : ct_H G (va_up (ct_E G μ) a (.inr (2, [.int 0, .int 0, .int 0, .int 0, .int 0, .int 0, .int 0, .ref (ev_lo G + (a + 1)), .ref (ev_lo G + (a + 2)), .ref (ev_lo G + (a + 3)), .ref (ev_lo G + (a + 4)), .ref (ev_lo G + (a + 5)), .ref (ev_lo G + (a + 7)), .ref (ev_lo G + (a + 9)), .ref (ev_lo G + (a + 11)), .ref (ev_lo G + (a + 13)), .null, .null]))) a 16 s.heap H := hH
  refine lv_aload_n hx hb dX4_init_106 rfl (lv_at hl 0 rfl) ?_
  refine ct_new (μ := μ) C0 hH hL (fun b hb => va_up_n (by omega)) hl.1 (T9 := TX5) (N9 := 2) (ci := 3) rfl cw_X4_c43 cw_X5.1 cw_X5.2.1 tyX5_ok cd_X5 (ct_X5 hok hρ (sh_PL16 hp) (sh_pan_kd a hp 16 (by decide)) (fun b k h1 h2 => hz b k (by omega) (by omega))) (by decide) ⟨rfl, rfl⟩ (Or.inr ⟨_, cw_X4_n45⟩) cw_X5.2.2.1 cw_X5.2.2.2 cp_X5 rfl ⟨Nat.le_of_ble_eq_true rfl, Nat.le_of_ble_eq_true rfl⟩ (Nat.le_of_ble_eq_true rfl) (Nat.le_of_ble_eq_true rfl) (Nat.le_of_ble_eq_true rfl) dX4_init_107 dX4_init_110 (pc2 := 111) (fun _ _ _ r h => by  exact h) dX4_init_111 (fun H locs hH hL => ?_)
  refine ct_putO C0 hH hL (by omega) (T := TX4) (N := 18) rfl 16 (by decide) cw_X4_f50 rfl hin2 (tyX4_ok 16 (by decide)) rfl rfl (Nat.le_of_ble_eq_true rfl) dX4_init_114 (fun H locs hH hL => ?_)
  have hH : ct_H G (va_up (ct_E G μ) a (.inr (2, [.int 0, .int 0, .int 0, .int 0, .int 0, .int 0, .int 0, .ref (ev_lo G + (a + 1)), .ref (ev_lo G + (a + 2)), .ref (ev_lo G + (a + 3)), .ref (ev_lo G + (a + 4)), .ref (ev_lo G + (a + 5)), .ref (ev_lo G + (a + 7)), .ref (ev_lo G + (a + 9)), .ref (ev_lo G + (a + 11)), .ref (ev_lo G + (a + 13)), .ref (ev_lo G + (a + 16)), .null]))) a 19 s.heap H := hH
  refine lv_aload_n hx hb dX4_init_117 rfl (lv_at hl 0 rfl) ?_
  refine ct_new (μ := μ) C0 hH hL (fun b hb => va_up_n (by omega)) hl.1 (T9 := TX6) (N9 := 5) (ci := 4) rfl cw_X4_c53 cw_X6.1 cw_X6.2.1 tyX6_ok cd_X6 (ct_X6 hok hρ (sh_pan_kd a hp 19 (by decide)) (sh_T20 hp) (fun b k h1 h2 => hz b k (by omega) (by omega))) (by decide) ⟨rfl, rfl⟩ (Or.inr ⟨_, cw_X4_n55⟩) cw_X6.2.2.1 cw_X6.2.2.2 cp_X6 rfl ⟨Nat.le_of_ble_eq_true rfl, Nat.le_of_ble_eq_true rfl⟩ (Nat.le_of_ble_eq_true rfl) (Nat.le_of_ble_eq_true rfl) (Nat.le_of_ble_eq_true rfl) dX4_init_118 dX4_init_121 (pc2 := 122) (fun _ _ _ r h => by  exact h) dX4_init_122 (fun H locs hH hL => ?_)
  refine ct_putO C0 hH hL (by omega) (T := TX4) (N := 18) rfl 17 (by decide) cw_X4_f56 rfl hin2 (tyX4_ok 17 (by decide)) rfl rfl (Nat.le_of_ble_eq_true rfl) dX4_init_125 (fun H locs hH hL => ?_)
  have hH : ct_H G (va_up (ct_E G μ) a (.inr (2, [.int 0, .int 0, .int 0, .int 0, .int 0, .int 0, .int 0, .ref (ev_lo G + (a + 1)), .ref (ev_lo G + (a + 2)), .ref (ev_lo G + (a + 3)), .ref (ev_lo G + (a + 4)), .ref (ev_lo G + (a + 5)), .ref (ev_lo G + (a + 7)), .ref (ev_lo G + (a + 9)), .ref (ev_lo G + (a + 11)), .ref (ev_lo G + (a + 13)), .ref (ev_lo G + (a + 16)), .ref (ev_lo G + (a + 19))]))) a 22 s.heap H := hH
  refine ct_ret C0 hH (fun b h1 h2 => ?_) hL hret hlk dX4_init_128 (Nat.le_of_ble_eq_true rfl) (Nat.le_of_ble_eq_true rfl)
  refine (congrFun (va_up_id ?_) b).symm
  have h0 : sh_kd a = 2 := sh_pan_kd a hp 0 (by decide)
  have hlt := (sh_pan_lt a hp).1
  show Sum.inr (2, [Value.int 0, .int 0, .int 0, .int 0, .int 0, .int 0, .int 0, .ref (ev_lo G + (a + 1)), .ref (ev_lo G + (a + 2)), .ref (ev_lo G + (a + 3)), .ref (ev_lo G + (a + 4)), .ref (ev_lo G + (a + 5)), .ref (ev_lo G + (a + 7)), .ref (ev_lo G + (a + 9)), .ref (ev_lo G + (a + 11)), .ref (ev_lo G + (a + 13)), .ref (ev_lo G + (a + 16)), .ref (ev_lo G + (a + 19))]) = ev_E sh_S G μ a
  rw [ev_E_obj (ci := 2) h0 (by decide)]
  have e : ∀ k, sh_pt a k = a + sh_of 2 k := fun k => by unfold sh_pt; rw [h0]
  have z : ∀ k, μ.1 a k = 0 := fun k => (hz a k (by omega) (by omega)).1
  show _ = Sum.inr (2, [Value.int (μ.1 a 0), .int (μ.1 a 1), .int (μ.1 a 2), .int (μ.1 a 3), .int (μ.1 a 4), .int (μ.1 a 5), .int (μ.1 a 6), .ref (G.2.1 (sh_pt a 7)), .ref (G.2.1 (sh_pt a 8)), .ref (G.2.1 (sh_pt a 9)), .ref (G.2.1 (sh_pt a 10)), .ref (G.2.1 (sh_pt a 11)), .ref (G.2.1 (sh_pt a 12)), .ref (G.2.1 (sh_pt a 13)), .ref (G.2.1 (sh_pt a 14)), .ref (G.2.1 (sh_pt a 15)), .ref (G.2.1 (sh_pt a 16)), .ref (G.2.1 (sh_pt a 17))])
  rw [z, z, z, z, z, z, z, e 7, e 8, e 9, e 10, e 11, e 12, e 13, e 14, e 15, e 16, e 17]
  rw [hρ (a + sh_of 2 7) (by show a + 1 < 312; omega), hρ (a + sh_of 2 8) (by show a + 2 < 312; omega), hρ (a + sh_of 2 9) (by show a + 3 < 312; omega), hρ (a + sh_of 2 10) (by show a + 4 < 312; omega), hρ (a + sh_of 2 11) (by show a + 5 < 312; omega), hρ (a + sh_of 2 12) (by show a + 7 < 312; omega), hρ (a + sh_of 2 13) (by show a + 9 < 312; omega), hρ (a + sh_of 2 14) (by show a + 11 < 312; omega), hρ (a + sh_of 2 15) (by show a + 13 < 312; omega), hρ (a + sh_of 2 16) (by show a + 16 < 312; omega), hρ (a + sh_of 2 17) (by show a + 19 < 312; omega)]
  rfl
set_option maxRecDepth 100000 in
set_option maxHeartbeats 2000000 in
theorem ct_X1 (hok : ev_ok sh_S G) (hρ : ∀ a : Nat, a < 312 → G.2.1 a = ev_lo G + a) {a cap : Nat} (k0 : sh_kd a = 0) (k1 : sh_kd (a + 1) = 10) (k2 : sh_ln (a + 1) = cap) (hcap : (if (0 : Int32) < nI cap then nI cap else 0) = nI cap) (hc9 : cap ≤ 500) (ha : a + 1 < 312) (hz : ∀ b k, a ≤ b → b < a + 2 → μ.1 b k = 0 ∧ μ.2.1 b k = 0) : ct_T G μ (yX1_init, cX1_init, 2, none, 1) [.int (nI cap)] a 2 (cap) (.inr (0, [.null, .int 0])) := by
  refine ct_of hok hρ (by decide +kernel) rfl (Nat.le_of_ble_eq_true rfl) (fun p e s m args below meth c C0 hlk hret hin2 hH ls hl => ?_)
  have hl : lv_has ls 2 [(0, .ref (ev_lo G + a)), (1, .int (nI cap))] := hl
  have hx := C0.2.2.1
  have hb := C0.2.2.2.1
  have hL : ∀ q ∈ ([] : List Loc), ev_lo G + a ≤ q.base := fun _ h => by cases h
  refine lv_aload_n hx hb dX1_init_0 rfl (lv_at hl 0 rfl) ?_
  refine ct_oi C0 hl.1 cw_X1_oi cw_oi.1 cw_oi.2 ⟨Nat.le_of_ble_eq_true rfl, Nat.le_of_ble_eq_true rfl⟩ dX1_init_1 ?_
  refine lv_aload_n hx hb dX1_init_4 rfl (lv_at hl 0 rfl) ?_
  refine lv_iconst (v := 0) hx hb dX1_init_5 rfl ?_
  refine lv_iload_n hx hb dX1_init_6 rfl (lv_at hl 1 rfl) ?_
  refine va_mmax hx hb (C0.2.2.2.2.1.trans hl.1.symm) C0.2.2.2.2.2.1 (ct_w C0 _ cw_X1_x7) (ct_w C0 _ (ev_math_in _ (by simp [ev_math]))) (ct_w C0 _ (ev_math_in _ (by simp [ev_math]))) (ct_w C0 _ (ev_math_in _ (by simp [ev_math]))) (Nat.le_of_ble_eq_true rfl) (Nat.le_of_ble_eq_true rfl) (Nat.zero_le _) (Nat.zero_le _) dX1_init_7 ?_
  rw [hcap]
  refine ct_arrO (ty := .int) (K := 10) (N := cap) (t0 := 0) (z := .inl (fun _ => 0)) C0 hH rfl cw_ar.1 (ct_ez10 k1 k2 (fun k => (hz _ k (by omega) (by omega)).1)) (va_up_n (by omega)) (fun _ => rfl) rfl (fun _ _ h => h) (by rw [no_lt0 (by omega)]; exact id) (nI_clamp (by omega)) (by show cap * 4 ≤ _; omega) (Nat.le_of_ble_eq_true rfl) (by show 0 + cap ≤ cap; omega) dX1_init_10 (fun H hH => ?_)
  refine ct_putO C0 hH hL (by omega) (T := TX1) (N := 2) rfl 0 (by decide) cw_X1_f13 rfl hin2 (tyX1_ok 0 (by decide)) rfl rfl (Nat.le_of_ble_eq_true rfl) dX1_init_12 (fun H locs hH hL => ?_)
  refine ct_ret C0 hH (fun b h1 h2 => ?_) hL hret hlk dX1_init_15 (Nat.le_of_ble_eq_true rfl) (by show 0 + cap ≤ cap; omega)
  refine (congrFun (va_up_id ?_) b).symm
  show Sum.inr (0, [Value.ref (ev_lo G + (a + 1)), .int 0]) = ev_E sh_S G μ a
  rw [ev_E_obj (ci := 0) k0 (by decide)]
  have e0 : sh_pt a 0 = a + 1 := by unfold sh_pt; rw [k0]; rfl
  have z : ∀ k, μ.1 a k = 0 := fun k => (hz a k (by omega) (by omega)).1
  show _ = Sum.inr (0, [Value.ref (G.2.1 (sh_pt a 0)), .int (μ.1 a 1)])
  rw [e0, hρ _ ha, z]
set_option maxRecDepth 100000 in
set_option maxHeartbeats 2000000 in
theorem ct_X9 (hok : ev_ok sh_S G) (hρ : ∀ a : Nat, a < 312 → G.2.1 a = ev_lo G + a) {a : Nat} (k0 : sh_kd a = 7) (hk : sh_kd (a + 1) = 10 ∧ sh_kd (a + 2) = 10 ∧ sh_kd (a + 3) = 13) (hn : sh_ln (a + 1) = 501 ∧ sh_ln (a + 2) = 501 ∧ sh_ln (a + 3) = 501) (ha : a + 3 < 312) (hz : ∀ b k, a ≤ b → b < a + 4 → μ.1 b k = 0 ∧ μ.2.1 b k = 0) : ct_T G μ (yX9_init, cX9_init, 1, none, 1) [] a 4 (1503) (.inr (7, [.null, .null, .null, .int 0, .int 0])) := by
  refine ct_of hok hρ (by decide +kernel) rfl (Nat.le_of_ble_eq_true rfl) (fun p e s m args below meth c C0 hlk hret hin2 hH ls hl => ?_)
  have hl : lv_has ls 1 [(0, .ref (ev_lo G + a))] := hl
  have hx := C0.2.2.1
  have hb := C0.2.2.2.1
  have hL : ∀ q ∈ ([] : List Loc), ev_lo G + a ≤ q.base := fun _ h => by cases h
  obtain ⟨k1, k2, k3⟩ := hk
  obtain ⟨n1, n2, n3⟩ := hn
  refine lv_aload_n hx hb dX9_init_0 rfl (lv_at hl 0 rfl) ?_
  refine ct_oi C0 hl.1 cw_X9_oi cw_oi.1 cw_oi.2 ⟨Nat.le_of_ble_eq_true rfl, Nat.le_of_ble_eq_true rfl⟩ dX9_init_1 ?_
  refine lv_aload_n hx hb dX9_init_4 rfl (lv_at hl 0 rfl) ?_
  refine lv_sipush (v := 501) hx hb dX9_init_5 (by decide) ?_
  refine ct_arrO (ty := .int) (K := 10) (N := 501) (t0 := 0) (z := .inl (fun _ => 0)) C0 hH rfl cw_ar.1 (ct_ez10 k1 n1 (fun k => (hz _ k (by omega) (by omega)).1)) (va_up_n (by omega)) (fun _ => rfl) rfl (fun _ _ h => h) (by decide) (by decide) (Nat.le_of_ble_eq_true rfl) (Nat.le_of_ble_eq_true rfl) (Nat.le_of_ble_eq_true rfl) dX9_init_8 (fun H hH => ?_)
  refine ct_putO C0 hH hL (by omega) (T := TX9) (N := 5) rfl 0 (by decide) cw_X9_f9 rfl hin2 (tyX9_ok 0 (by decide)) rfl rfl (Nat.le_of_ble_eq_true rfl) dX9_init_10 (fun H locs hH hL => ?_)
  have hH : ct_H G (va_up (ct_E G μ) a (.inr (7, [.ref (ev_lo G + (a + 1)), .null, .null, .int 0, .int 0]))) a 2 s.heap H := hH
  refine lv_aload_n hx hb dX9_init_13 rfl (lv_at hl 0 rfl) ?_
  refine lv_sipush (v := 501) hx hb dX9_init_14 (by decide) ?_
  refine ct_arrO (ty := .int) (K := 10) (N := 501) (t0 := 0) (z := .inl (fun _ => 0)) C0 hH rfl cw_ar.1 (ct_ez10 k2 n2 (fun k => (hz _ k (by omega) (by omega)).1)) (va_up_n (by omega)) (fun _ => rfl) rfl (fun _ _ h => h) (by decide) (by decide) (Nat.le_of_ble_eq_true rfl) (Nat.le_of_ble_eq_true rfl) (Nat.le_of_ble_eq_true rfl) dX9_init_17 (fun H hH => ?_)
  refine ct_putO C0 hH hL (by omega) (T := TX9) (N := 5) rfl 1 (by decide) cw_X9_f15 rfl hin2 (tyX9_ok 1 (by decide)) rfl rfl (Nat.le_of_ble_eq_true rfl) dX9_init_19 (fun H locs hH hL => ?_)
  have hH : ct_H G (va_up (ct_E G μ) a (.inr (7, [.ref (ev_lo G + (a + 1)), .ref (ev_lo G + (a + 2)), .null, .int 0, .int 0]))) a 3 s.heap H := hH
  refine lv_aload_n hx hb dX9_init_22 rfl (lv_at hl 0 rfl) ?_
  refine lv_sipush (v := 501) hx hb dX9_init_23 (by decide) ?_
  refine ct_arrO (ty := .long) (K := 13) (N := 501) (t0 := 3) (z := .inr (.inl (fun _ => 0))) C0 hH rfl cw_ar.2.1 (ct_ez13 k3 n3 (fun k => (hz _ k (by omega) (by omega)).2)) (va_up_n (by omega)) (fun _ => rfl) rfl (fun _ _ h => h) (by decide) (by decide) (Nat.le_of_ble_eq_true rfl) (Nat.le_of_ble_eq_true rfl) (Nat.le_of_ble_eq_true rfl) dX9_init_26 (fun H hH => ?_)
  refine ct_putO C0 hH hL (by omega) (T := TX9) (N := 5) rfl 2 (by decide) cw_X9_f18 rfl hin2 (tyX9_ok 2 (by decide)) rfl rfl (Nat.le_of_ble_eq_true rfl) dX9_init_28 (fun H locs hH hL => ?_)
  have hH : ct_H G (va_up (ct_E G μ) a (.inr (7, [.ref (ev_lo G + (a + 1)), .ref (ev_lo G + (a + 2)), .ref (ev_lo G + (a + 3)), .int 0, .int 0]))) a 4 s.heap H := hH
  refine ct_ret C0 hH (fun b h1 h2 => ?_) hL hret hlk dX9_init_31 (Nat.le_of_ble_eq_true rfl) (Nat.le_of_ble_eq_true rfl)
  refine (congrFun (va_up_id ?_) b).symm
  show Sum.inr (7, [Value.ref (ev_lo G + (a + 1)), .ref (ev_lo G + (a + 2)), .ref (ev_lo G + (a + 3)), .int 0, .int 0]) = ev_E sh_S G μ a
  rw [ev_E_obj (ci := 7) k0 (by decide)]
  have e : ∀ k, sh_pt a k = a + sh_of 7 k := fun k => by unfold sh_pt; rw [k0]
  have z : ∀ k, μ.1 a k = 0 := fun k => (hz a k (by omega) (by omega)).1
  show _ = Sum.inr (7, [Value.ref (G.2.1 (sh_pt a 0)), .ref (G.2.1 (sh_pt a 1)), .ref (G.2.1 (sh_pt a 2)), .int (μ.1 a 3), .int (μ.1 a 4)])
  rw [e 0, e 1, e 2, hρ (a + sh_of 7 0) (by show a + 1 < 312; omega), hρ (a + sh_of 7 1) (by show a + 2 < 312; omega), hρ (a + sh_of 7 2) (by show a + 3 < 312; omega), z, z]
  rfl
set_option maxRecDepth 100000 in
set_option maxHeartbeats 2000000 in
theorem ct_X7 (hok : ev_ok sh_S G) (hρ : ∀ a : Nat, a < 312 → G.2.1 a = ev_lo G + a) {a : Nat} (k0 : sh_kd a = 5) (hp : a + 1 ∈ sh_B) (k23 : sh_kd (a + 23) = 7) (hk : sh_kd (a + 24) = 10 ∧ sh_kd (a + 25) = 10 ∧ sh_kd (a + 26) = 13) (hn : sh_ln (a + 24) = 501 ∧ sh_ln (a + 25) = 501 ∧ sh_ln (a + 26) = 501) (k27 : sh_kd (a + 27) = 10 ∧ sh_ln (a + 27) = 2 ∧ sh_kd (a + 28) = 10 ∧ sh_ln (a + 28) = 2) (ha : a + 28 < 312) (hz : ∀ b k, a < b → b < a + 29 → μ.1 b k = 0 ∧ μ.2.1 b k = 0) (hza : ∀ k, μ.1 a k = if k = 2 then -1 else 0) : ct_T G μ (yX7_init, cX7_init, 1, none, 4) [] a 29 (2494) (.inr (5, [.null, .int 0, .int 0, .null, .null, .null, .int 0, .int 0])) := by
  refine ct_of hok hρ (by decide +kernel) rfl (Nat.le_of_ble_eq_true rfl) (fun p e s m args below meth c C0 hlk hret hin2 hH ls hl => ?_)
  have hl : lv_has ls 1 [(0, .ref (ev_lo G + a))] := hl
  have hx := C0.2.2.1
  have hb := C0.2.2.2.1
  have hL : ∀ q ∈ ([] : List Loc), ev_lo G + a ≤ q.base := fun _ h => by cases h
  refine lv_aload_n hx hb dX7_init_0 rfl (lv_at hl 0 rfl) ?_
  refine ct_oi C0 hl.1 cw_X7_oi cw_oi.1 cw_oi.2 ⟨Nat.le_of_ble_eq_true rfl, Nat.le_of_ble_eq_true rfl⟩ dX7_init_1 ?_
  refine lv_aload_n hx hb dX7_init_4 rfl (lv_at hl 0 rfl) ?_
  refine ct_new (μ := μ) C0 hH hL (fun b hb => va_up_n (by omega)) hl.1 (T9 := TX4) (N9 := 18) (ci := 2) rfl cw_X7_c9 cw_X4.1 cw_X4.2.1 tyX4_ok cd_X4 (ct_X4 hok hρ hp (fun b k h1 h2 => hz b k (by omega) (by omega))) (by decide) ⟨rfl, rfl⟩ (Or.inr ⟨_, cw_X7_n11⟩) cw_X4.2.2.1 cw_X4.2.2.2 cp_X4 rfl ⟨Nat.le_of_ble_eq_true rfl, Nat.le_of_ble_eq_true rfl⟩ (Nat.le_of_ble_eq_true rfl) (Nat.le_of_ble_eq_true rfl) (Nat.le_of_ble_eq_true rfl) dX7_init_5 dX7_init_8 (pc2 := 9) (fun _ _ _ r h => by  exact h) dX7_init_9 (fun H locs hH hL => ?_)
  refine ct_putO C0 hH hL (by omega) (T := TX7) (N := 8) rfl 0 (by decide) cw_X7_f12 rfl hin2 (tyX7_ok 0 (by decide)) rfl rfl (Nat.le_of_ble_eq_true rfl) dX7_init_12 (fun H locs hH hL => ?_)
  have hH : ct_H G (va_up (ct_E G μ) a (.inr (5, [.ref (ev_lo G + (a + 1)), .int 0, .int 0, .null, .null, .null, .int 0, .int 0]))) a 23 s.heap H := hH
  refine lv_aload_n hx hb dX7_init_15 rfl (lv_at hl 0 rfl) ?_
  refine lv_iconst (v := -1) hx hb dX7_init_16 (by decide) ?_
  refine ct_putO C0 hH hL (by omega) (T := TX7) (N := 8) rfl 2 (by decide) cw_X7_f18 rfl hin2 (tyX7_ok 2 (by decide)) rfl rfl (Nat.le_of_ble_eq_true rfl) dX7_init_17 (fun H locs hH hL => ?_)
  have hH : ct_H G (va_up (ct_E G μ) a (.inr (5, [.ref (ev_lo G + (a + 1)), .int 0, .int (-1), .null, .null, .null, .int 0, .int 0]))) a 23 s.heap H := hH
  refine lv_aload_n hx hb dX7_init_20 rfl (lv_at hl 0 rfl) ?_
  refine ct_new (μ := μ) C0 hH hL (fun b hb => va_up_n (by omega)) hl.1 (T9 := TX9) (N9 := 5) (ci := 7) rfl cw_X7_c22 cw_X9.1 cw_X9.2.1 tyX9_ok cd_X9 (ct_X9 hok hρ k23 hk hn (by omega) (fun b k h1 h2 => hz b k (by omega) (by omega))) (by decide) ⟨rfl, rfl⟩ (Or.inr ⟨_, cw_X7_n24⟩) cw_X9.2.2.1 cw_X9.2.2.2 cp_X9 rfl ⟨Nat.le_of_ble_eq_true rfl, Nat.le_of_ble_eq_true rfl⟩ (Nat.le_of_ble_eq_true rfl) (Nat.le_of_ble_eq_true rfl) (Nat.le_of_ble_eq_true rfl) dX7_init_21 dX7_init_24 (pc2 := 25) (fun _ _ _ r h => by  exact h) dX7_init_25 (fun H locs hH hL => ?_)
  refine ct_putO C0 hH hL (by omega) (T := TX7) (N := 8) rfl 3 (by decide) cw_X7_f25 rfl hin2 (tyX7_ok 3 (by decide)) rfl rfl (Nat.le_of_ble_eq_true rfl) dX7_init_28 (fun H locs hH hL => ?_)
  have hH : ct_H G (va_up (ct_E G μ) a (.inr (5, [.ref (ev_lo G + (a + 1)), .int 0, .int (-1), .ref (ev_lo G + (a + 23)), .null, .null, .int 0, .int 0]))) a 27 s.heap H := hH
  refine lv_aload_n hx hb dX7_init_31 rfl (lv_at hl 0 rfl) ?_
  refine lv_iconst (v := 2) hx hb dX7_init_32 (by decide) ?_
  refine ct_arrO (ty := .int) (K := 10) (N := 2) (t0 := 0) (z := .inl (fun _ => 0)) C0 hH rfl cw_ar.1 (ct_ez10 k27.1 k27.2.1 (fun k => (hz _ k (by omega) (by omega)).1)) (va_up_n (by omega)) (fun _ => rfl) rfl (fun _ _ h => h) (by decide) (by decide) (Nat.le_of_ble_eq_true rfl) (Nat.le_of_ble_eq_true rfl) (Nat.le_of_ble_eq_true rfl) dX7_init_33 (fun H hH => ?_)
  refine ct_putO C0 hH hL (by omega) (T := TX7) (N := 8) rfl 4 (by decide) cw_X7_f29 rfl hin2 (tyX7_ok 4 (by decide)) rfl rfl (Nat.le_of_ble_eq_true rfl) dX7_init_35 (fun H locs hH hL => ?_)
  have hH : ct_H G (va_up (ct_E G μ) a (.inr (5, [.ref (ev_lo G + (a + 1)), .int 0, .int (-1), .ref (ev_lo G + (a + 23)), .ref (ev_lo G + (a + 27)), .null, .int 0, .int 0]))) a 28 s.heap H := hH
  refine lv_aload_n hx hb dX7_init_38 rfl (lv_at hl 0 rfl) ?_
  refine lv_iconst (v := 2) hx hb dX7_init_39 (by decide) ?_
  refine ct_arrO (ty := .int) (K := 10) (N := 2) (t0 := 0) (z := .inl (fun _ => 0)) C0 hH rfl cw_ar.1 (ct_ez10 k27.2.2.1 k27.2.2.2 (fun k => (hz _ k (by omega) (by omega)).1)) (va_up_n (by omega)) (fun _ => rfl) rfl (fun _ _ h => h) (by decide) (by decide) (Nat.le_of_ble_eq_true rfl) (Nat.le_of_ble_eq_true rfl) (Nat.le_of_ble_eq_true rfl) dX7_init_40 (fun H hH => ?_)
  refine ct_putO C0 hH hL (by omega) (T := TX7) (N := 8) rfl 5 (by decide) cw_X7_f33 rfl hin2 (tyX7_ok 5 (by decide)) rfl rfl (Nat.le_of_ble_eq_true rfl) dX7_init_42 (fun H locs hH hL => ?_)
  have hH : ct_H G (va_up (ct_E G μ) a (.inr (5, [.ref (ev_lo G + (a + 1)), .int 0, .int (-1), .ref (ev_lo G + (a + 23)), .ref (ev_lo G + (a + 27)), .ref (ev_lo G + (a + 28)), .int 0, .int 0]))) a 29 s.heap H := hH
  refine ct_ret C0 hH (fun b h1 h2 => ?_) hL hret hlk dX7_init_45 (Nat.le_of_ble_eq_true rfl) (Nat.le_of_ble_eq_true rfl)
  refine (congrFun (va_up_id ?_) b).symm
  show Sum.inr (5, [Value.ref (ev_lo G + (a + 1)), .int 0, .int (-1), .ref (ev_lo G + (a + 23)), .ref (ev_lo G + (a + 27)), .ref (ev_lo G + (a + 28)), .int 0, .int 0]) = ev_E sh_S G μ a
  rw [ev_E_obj (ci := 5) k0 (by decide)]
  have e : ∀ k, sh_pt a k = a + sh_of 5 k := fun k => by unfold sh_pt; rw [k0]
  show _ = Sum.inr (5, [Value.ref (G.2.1 (sh_pt a 0)), .int (μ.1 a 1), .int (μ.1 a 2), .ref (G.2.1 (sh_pt a 3)), .ref (G.2.1 (sh_pt a 4)), .ref (G.2.1 (sh_pt a 5)), .int (μ.1 a 6), .int (μ.1 a 7)])
  rw [e 0, e 3, e 4, e 5, hρ (a + sh_of 5 0) (by show a + 1 < 312; omega), hρ (a + sh_of 5 3) (by show a + 23 < 312; omega), hρ (a + sh_of 5 4) (by show a + 27 < 312; omega), hρ (a + sh_of 5 5) (by show a + 28 < 312; omega), hza, hza, hza, hza]
  rfl
set_option maxRecDepth 100000 in
set_option maxHeartbeats 2000000 in
theorem ct_X11 (hok : ev_ok sh_S G) (hρ : ∀ a : Nat, a < 312 → G.2.1 a = ev_lo G + a) {a : Nat} (k0 : sh_kd a = 9) (hk : sh_kd (a + 1) = 10 ∧ sh_kd (a + 2) = 10 ∧ sh_kd (a + 3) = 10 ∧ sh_kd (a + 4) = 10 ∧ sh_kd (a + 5) = 12 ∧ sh_kd (a + 6) = 11 ∧ sh_kd (a + 7) = 12 ∧ sh_kd (a + 8) = 11) (hn : sh_ln (a + 1) = 1042 ∧ sh_ln (a + 2) = 1042 ∧ sh_ln (a + 3) = 8336 ∧ sh_ln (a + 4) = 2084 ∧ sh_ln (a + 5) = 2 ∧ sh_ln (a + 6) = 500 ∧ sh_ln (a + 7) = 10 ∧ sh_ln (a + 8) = 200) (ha : a + 8 < 312) (hz : ∀ b k, a < b → b < a + 9 → μ.1 b k = 0 ∧ μ.2.1 b k = 0) (hza : ∀ k, μ.1 a k = if k = 11 then -1 else 0) : ct_T G μ (yX11_init, cX11_init, 1, none, 1) [] a 9 (13216) (.inr (9, [.int 0, .null, .null, .null, .null, .null, .int 0, .int 0, .null, .int 0, .int 0, .int 0, .int 0, .int 0, .int 0, .int 0, .int 0, .int 0, .null, .null, .int 0])) := by
  refine ct_of hok hρ (by decide +kernel) rfl (Nat.le_of_ble_eq_true rfl) (fun p e s m args below meth c C0 hlk hret hin2 hH ls hl => ?_)
  have hl : lv_has ls 1 [(0, .ref (ev_lo G + a))] := hl
  have hx := C0.2.2.1
  have hb := C0.2.2.2.1
  have hL : ∀ q ∈ ([] : List Loc), ev_lo G + a ≤ q.base := fun _ h => by cases h
  obtain ⟨k1, k2, k3, k4, k5, k6, k7, k8⟩ := hk
  obtain ⟨n1, n2, n3, n4, n5, n6, n7, n8⟩ := hn
  refine lv_aload_n hx hb dX11_init_0 rfl (lv_at hl 0 rfl) ?_
  refine ct_oi C0 hl.1 cw_X11_oi cw_oi.1 cw_oi.2 ⟨Nat.le_of_ble_eq_true rfl, Nat.le_of_ble_eq_true rfl⟩ dX11_init_1 ?_
  refine lv_aload_n hx hb dX11_init_4 rfl (lv_at hl 0 rfl) ?_
  refine lv_sipush (v := 1042) hx hb dX11_init_5 (by decide) ?_
  refine ct_arrO (ty := .int) (K := 10) (N := 1042) (t0 := 0) (z := .inl (fun _ => 0)) C0 hH rfl cw_ar.1 (ct_ez10 k1 n1 (fun k => (hz _ k (by omega) (by omega)).1)) (va_up_n (by omega)) (fun _ => rfl) rfl (fun _ _ h => h) (by decide) (by decide) (Nat.le_of_ble_eq_true rfl) (Nat.le_of_ble_eq_true rfl) (Nat.le_of_ble_eq_true rfl) dX11_init_8 (fun H hH => ?_)
  refine ct_putO C0 hH hL (by omega) (T := TX11) (N := 21) rfl 1 (by decide) cw_X11_f9 rfl hin2 (tyX11_ok 1 (by decide)) rfl rfl (Nat.le_of_ble_eq_true rfl) dX11_init_10 (fun H locs hH hL => ?_)
  have hH : ct_H G (va_up (ct_E G μ) a (.inr (9, [.int 0, .ref (ev_lo G + (a + 1)), .null, .null, .null, .null, .int 0, .int 0, .null, .int 0, .int 0, .int 0, .int 0, .int 0, .int 0, .int 0, .int 0, .int 0, .null, .null, .int 0]))) a 2 s.heap H := hH
  refine lv_aload_n hx hb dX11_init_13 rfl (lv_at hl 0 rfl) ?_
  refine lv_sipush (v := 1042) hx hb dX11_init_14 (by decide) ?_
  refine ct_arrO (ty := .int) (K := 10) (N := 1042) (t0 := 0) (z := .inl (fun _ => 0)) C0 hH rfl cw_ar.1 (ct_ez10 k2 n2 (fun k => (hz _ k (by omega) (by omega)).1)) (va_up_n (by omega)) (fun _ => rfl) rfl (fun _ _ h => h) (by decide) (by decide) (Nat.le_of_ble_eq_true rfl) (Nat.le_of_ble_eq_true rfl) (Nat.le_of_ble_eq_true rfl) dX11_init_17 (fun H hH => ?_)
  refine ct_putO C0 hH hL (by omega) (T := TX11) (N := 21) rfl 2 (by decide) cw_X11_f13 rfl hin2 (tyX11_ok 2 (by decide)) rfl rfl (Nat.le_of_ble_eq_true rfl) dX11_init_19 (fun H locs hH hL => ?_)
  have hH : ct_H G (va_up (ct_E G μ) a (.inr (9, [.int 0, .ref (ev_lo G + (a + 1)), .ref (ev_lo G + (a + 2)), .null, .null, .null, .int 0, .int 0, .null, .int 0, .int 0, .int 0, .int 0, .int 0, .int 0, .int 0, .int 0, .int 0, .null, .null, .int 0]))) a 3 s.heap H := hH
  refine lv_aload_n hx hb dX11_init_22 rfl (lv_at hl 0 rfl) ?_
  refine lv_sipush (v := 8336) hx hb dX11_init_23 (by decide) ?_
  refine ct_arrO (ty := .int) (K := 10) (N := 8336) (t0 := 0) (z := .inl (fun _ => 0)) C0 hH rfl cw_ar.1 (ct_ez10 k3 n3 (fun k => (hz _ k (by omega) (by omega)).1)) (va_up_n (by omega)) (fun _ => rfl) rfl (fun _ _ h => h) (by decide) (by decide) (Nat.le_of_ble_eq_true rfl) (Nat.le_of_ble_eq_true rfl) (Nat.le_of_ble_eq_true rfl) dX11_init_26 (fun H hH => ?_)
  refine ct_putO C0 hH hL (by omega) (T := TX11) (N := 21) rfl 3 (by decide) cw_X11_f16 rfl hin2 (tyX11_ok 3 (by decide)) rfl rfl (Nat.le_of_ble_eq_true rfl) dX11_init_28 (fun H locs hH hL => ?_)
  have hH : ct_H G (va_up (ct_E G μ) a (.inr (9, [.int 0, .ref (ev_lo G + (a + 1)), .ref (ev_lo G + (a + 2)), .ref (ev_lo G + (a + 3)), .null, .null, .int 0, .int 0, .null, .int 0, .int 0, .int 0, .int 0, .int 0, .int 0, .int 0, .int 0, .int 0, .null, .null, .int 0]))) a 4 s.heap H := hH
  refine lv_aload_n hx hb dX11_init_31 rfl (lv_at hl 0 rfl) ?_
  refine lv_sipush (v := 2084) hx hb dX11_init_32 (by decide) ?_
  refine ct_arrO (ty := .int) (K := 10) (N := 2084) (t0 := 0) (z := .inl (fun _ => 0)) C0 hH rfl cw_ar.1 (ct_ez10 k4 n4 (fun k => (hz _ k (by omega) (by omega)).1)) (va_up_n (by omega)) (fun _ => rfl) rfl (fun _ _ h => h) (by decide) (by decide) (Nat.le_of_ble_eq_true rfl) (Nat.le_of_ble_eq_true rfl) (Nat.le_of_ble_eq_true rfl) dX11_init_35 (fun H hH => ?_)
  refine ct_putO C0 hH hL (by omega) (T := TX11) (N := 21) rfl 4 (by decide) cw_X11_f19 rfl hin2 (tyX11_ok 4 (by decide)) rfl rfl (Nat.le_of_ble_eq_true rfl) dX11_init_37 (fun H locs hH hL => ?_)
  have hH : ct_H G (va_up (ct_E G μ) a (.inr (9, [.int 0, .ref (ev_lo G + (a + 1)), .ref (ev_lo G + (a + 2)), .ref (ev_lo G + (a + 3)), .ref (ev_lo G + (a + 4)), .null, .int 0, .int 0, .null, .int 0, .int 0, .int 0, .int 0, .int 0, .int 0, .int 0, .int 0, .int 0, .null, .null, .int 0]))) a 5 s.heap H := hH
  refine lv_aload_n hx hb dX11_init_40 rfl (lv_at hl 0 rfl) ?_
  refine lv_iconst (v := 2) hx hb dX11_init_41 (by decide) ?_
  refine ct_arrO (ty := .boolean) (K := 12) (N := 2) (t0 := 2) (z := .inl (fun _ => 0)) C0 hH rfl cw_ar.2.2.1 (ct_ez12 k5 n5 (fun k => (hz _ k (by omega) (by omega)).1)) (va_up_n (by omega)) (fun _ => rfl) rfl (fun _ _ h => h) (by decide) (by decide) (Nat.le_of_ble_eq_true rfl) (Nat.le_of_ble_eq_true rfl) (Nat.le_of_ble_eq_true rfl) dX11_init_42 (fun H hH => ?_)
  refine ct_putO C0 hH hL (by omega) (T := TX11) (N := 21) rfl 5 (by decide) cw_X11_f22 rfl hin2 (tyX11_ok 5 (by decide)) rfl rfl (Nat.le_of_ble_eq_true rfl) dX11_init_44 (fun H locs hH hL => ?_)
  have hH : ct_H G (va_up (ct_E G μ) a (.inr (9, [.int 0, .ref (ev_lo G + (a + 1)), .ref (ev_lo G + (a + 2)), .ref (ev_lo G + (a + 3)), .ref (ev_lo G + (a + 4)), .ref (ev_lo G + (a + 5)), .int 0, .int 0, .null, .int 0, .int 0, .int 0, .int 0, .int 0, .int 0, .int 0, .int 0, .int 0, .null, .null, .int 0]))) a 6 s.heap H := hH
  refine lv_aload_n hx hb dX11_init_47 rfl (lv_at hl 0 rfl) ?_
  refine lv_sipush (v := 500) hx hb dX11_init_48 (by decide) ?_
  refine ct_arrO (ty := .byte) (K := 11) (N := 500) (t0 := 1) (z := .inl (fun _ => 0)) C0 hH rfl cw_ar.2.2.2.1 (ct_ez11 k6 n6 (fun k => (hz _ k (by omega) (by omega)).1)) (va_up_n (by omega)) (fun _ => rfl) rfl (fun _ _ h => h) (by decide) (by decide) (Nat.le_of_ble_eq_true rfl) (Nat.le_of_ble_eq_true rfl) (Nat.le_of_ble_eq_true rfl) dX11_init_51 (fun H hH => ?_)
  refine ct_putO C0 hH hL (by omega) (T := TX11) (N := 21) rfl 8 (by decide) cw_X11_f26 rfl hin2 (tyX11_ok 8 (by decide)) rfl rfl (Nat.le_of_ble_eq_true rfl) dX11_init_53 (fun H locs hH hL => ?_)
  have hH : ct_H G (va_up (ct_E G μ) a (.inr (9, [.int 0, .ref (ev_lo G + (a + 1)), .ref (ev_lo G + (a + 2)), .ref (ev_lo G + (a + 3)), .ref (ev_lo G + (a + 4)), .ref (ev_lo G + (a + 5)), .int 0, .int 0, .ref (ev_lo G + (a + 6)), .int 0, .int 0, .int 0, .int 0, .int 0, .int 0, .int 0, .int 0, .int 0, .null, .null, .int 0]))) a 7 s.heap H := hH
  refine lv_aload_n hx hb dX11_init_56 rfl (lv_at hl 0 rfl) ?_
  refine lv_iconst (v := -1) hx hb dX11_init_57 (by decide) ?_
  refine ct_putO C0 hH hL (by omega) (T := TX11) (N := 21) rfl 11 (by decide) cw_X11_f30 rfl hin2 (tyX11_ok 11 (by decide)) rfl rfl (Nat.le_of_ble_eq_true rfl) dX11_init_58 (fun H locs hH hL => ?_)
  have hH : ct_H G (va_up (ct_E G μ) a (.inr (9, [.int 0, .ref (ev_lo G + (a + 1)), .ref (ev_lo G + (a + 2)), .ref (ev_lo G + (a + 3)), .ref (ev_lo G + (a + 4)), .ref (ev_lo G + (a + 5)), .int 0, .int 0, .ref (ev_lo G + (a + 6)), .int 0, .int 0, .int (-1), .int 0, .int 0, .int 0, .int 0, .int 0, .int 0, .null, .null, .int 0]))) a 7 s.heap H := hH
  refine lv_aload_n hx hb dX11_init_61 rfl (lv_at hl 0 rfl) ?_
  refine lv_bipush (v := 10) hx hb dX11_init_62 (by decide) ?_
  refine ct_arrO (ty := .boolean) (K := 12) (N := 10) (t0 := 2) (z := .inl (fun _ => 0)) C0 hH rfl cw_ar.2.2.1 (ct_ez12 k7 n7 (fun k => (hz _ k (by omega) (by omega)).1)) (va_up_n (by omega)) (fun _ => rfl) rfl (fun _ _ h => h) (by decide) (by decide) (Nat.le_of_ble_eq_true rfl) (Nat.le_of_ble_eq_true rfl) (Nat.le_of_ble_eq_true rfl) dX11_init_64 (fun H hH => ?_)
  refine ct_putO C0 hH hL (by omega) (T := TX11) (N := 21) rfl 18 (by decide) cw_X11_f34 rfl hin2 (tyX11_ok 18 (by decide)) rfl rfl (Nat.le_of_ble_eq_true rfl) dX11_init_66 (fun H locs hH hL => ?_)
  have hH : ct_H G (va_up (ct_E G μ) a (.inr (9, [.int 0, .ref (ev_lo G + (a + 1)), .ref (ev_lo G + (a + 2)), .ref (ev_lo G + (a + 3)), .ref (ev_lo G + (a + 4)), .ref (ev_lo G + (a + 5)), .int 0, .int 0, .ref (ev_lo G + (a + 6)), .int 0, .int 0, .int (-1), .int 0, .int 0, .int 0, .int 0, .int 0, .int 0, .ref (ev_lo G + (a + 7)), .null, .int 0]))) a 8 s.heap H := hH
  refine lv_aload_n hx hb dX11_init_69 rfl (lv_at hl 0 rfl) ?_
  refine lv_sipush (v := 200) hx hb dX11_init_70 (by decide) ?_
  refine ct_arrO (ty := .byte) (K := 11) (N := 200) (t0 := 1) (z := .inl (fun _ => 0)) C0 hH rfl cw_ar.2.2.2.1 (ct_ez11 k8 n8 (fun k => (hz _ k (by omega) (by omega)).1)) (va_up_n (by omega)) (fun _ => rfl) rfl (fun _ _ h => h) (by decide) (by decide) (Nat.le_of_ble_eq_true rfl) (Nat.le_of_ble_eq_true rfl) (Nat.le_of_ble_eq_true rfl) dX11_init_73 (fun H hH => ?_)
  refine ct_putO C0 hH hL (by omega) (T := TX11) (N := 21) rfl 19 (by decide) cw_X11_f37 rfl hin2 (tyX11_ok 19 (by decide)) rfl rfl (Nat.le_of_ble_eq_true rfl) dX11_init_75 (fun H locs hH hL => ?_)
  have hH : ct_H G (va_up (ct_E G μ) a (.inr (9, [.int 0, .ref (ev_lo G + (a + 1)), .ref (ev_lo G + (a + 2)), .ref (ev_lo G + (a + 3)), .ref (ev_lo G + (a + 4)), .ref (ev_lo G + (a + 5)), .int 0, .int 0, .ref (ev_lo G + (a + 6)), .int 0, .int 0, .int (-1), .int 0, .int 0, .int 0, .int 0, .int 0, .int 0, .ref (ev_lo G + (a + 7)), .ref (ev_lo G + (a + 8)), .int 0]))) a 9 s.heap H := hH
  refine ct_ret C0 hH (fun b h1 h2 => ?_) hL hret hlk dX11_init_78 (Nat.le_of_ble_eq_true rfl) (Nat.le_of_ble_eq_true rfl)
  refine (congrFun (va_up_id ?_) b).symm
  show Sum.inr (9, [Value.int 0, Value.ref (ev_lo G + (a + 1)), Value.ref (ev_lo G + (a + 2)), Value.ref (ev_lo G + (a + 3)), Value.ref (ev_lo G + (a + 4)), Value.ref (ev_lo G + (a + 5)), Value.int 0, Value.int 0, Value.ref (ev_lo G + (a + 6)), Value.int 0, Value.int 0, Value.int (-1), Value.int 0, Value.int 0, Value.int 0, Value.int 0, Value.int 0, Value.int 0, Value.ref (ev_lo G + (a + 7)), Value.ref (ev_lo G + (a + 8)), Value.int 0]) = ev_E sh_S G μ a
  rw [ev_E_obj (ci := 9) k0 (by decide)]
  have e : ∀ k, sh_pt a k = a + sh_of 9 k := fun k => by unfold sh_pt; rw [k0]
  show _ = Sum.inr (9, [Value.int (μ.1 a 0), Value.ref (G.2.1 (sh_pt a 1)), Value.ref (G.2.1 (sh_pt a 2)), Value.ref (G.2.1 (sh_pt a 3)), Value.ref (G.2.1 (sh_pt a 4)), Value.ref (G.2.1 (sh_pt a 5)), Value.int (μ.1 a 6), Value.int (μ.1 a 7), Value.ref (G.2.1 (sh_pt a 8)), Value.int (μ.1 a 9), Value.int (μ.1 a 10), Value.int (μ.1 a 11), Value.int (μ.1 a 12), Value.int (μ.1 a 13), Value.int (μ.1 a 14), Value.int (μ.1 a 15), Value.int (μ.1 a 16), Value.int (μ.1 a 17), Value.ref (G.2.1 (sh_pt a 18)), Value.ref (G.2.1 (sh_pt a 19)), Value.int (μ.1 a 20)])
  rw [e 1, e 2, e 3, e 4, e 5, e 8, e 18, e 19]
  rw [hρ (a + sh_of 9 1) (by show a + 1 < 312; omega), hρ (a + sh_of 9 2) (by show a + 2 < 312; omega), hρ (a + sh_of 9 3) (by show a + 3 < 312; omega), hρ (a + sh_of 9 4) (by show a + 4 < 312; omega), hρ (a + sh_of 9 5) (by show a + 5 < 312; omega), hρ (a + sh_of 9 8) (by show a + 6 < 312; omega), hρ (a + sh_of 9 18) (by show a + 7 < 312; omega), hρ (a + sh_of 9 19) (by show a + 8 < 312; omega)]
  rw [hza 0, hza 6, hza 7, hza 9, hza 10, hza 11, hza 12, hza 13, hza 14, hza 15, hza 16, hza 17, hza 20]
  rfl
set_option maxRecDepth 100000 in
set_option maxHeartbeats 2000000 in
theorem cl_X2 (hok : ev_ok sh_S G) (hρ : ∀ a : Nat, a < 312 → G.2.1 a = ev_lo G + a) {a : Nat} (hobj : ct_E G μ a = .inr (1, [.ref (ev_lo G + (a + 1)), .int 0, .int 0])) (hk : sh_kd (a + 1) = 14) (hn : sh_ln (a + 1) = 8) (hpt : ∀ i, i < 8 → μ.2.2 (a + 1) i = a + 2 + 22 * i) (hB : ∀ i, i < 8 → a + 2 + 22 * i ∈ sh_B) (hz : ∀ b k, a + 2 ≤ b → b < a + 2 + 22 * 8 → μ.1 b k = 0 ∧ μ.2.1 b k = 0)
    {p : Program} {e : Env} {s : State} {m : MethodId} {args : Array Value} {below : List Frame} {meth : Method} {c : Code} (C0 : ct_C G p s m c cX2_init yX2_init.cls 2) (hlk : meth.locks = false) (hret : meth.sig.returnType = none) :
    ∀ (j i : Nat), i + j = 8 → ∀ (H : Heap) (locs : List Loc) (ls : Array Slot), ct_H G (va_up (ct_E G μ) (a + 1) (.inl (G.2.2.2.1 14, 8, .inr (.inr (.inr (.inr (fun x => if x < i then some (ev_lo G + (a + 2 + 22 * x)) else none))))))) a (2 + 22 * i) s.heap H → (∀ q ∈ locs, ev_lo G + a ≤ q.base) → lv_has ls 2 [(1, .int (nI i)), (0, .ref (ev_lo G + a))] →
      W p G.1 e { frames := 4, cells := 178 - 1, slots := 7848, locals := 40 * 4 } s m args below meth c H locs (2 - 1 + 22 * i) (8 + 980 * i) (MQ below (fun _ st o t => o = .returned none ∧ ct_H G (ct_E G μ) a 178 st.heap t.heap) args s (178 - 1) (7848) (fun q => ev_lo G + a ≤ q)) (F0 m 15 ls []) := by
  have hx := C0.2.2.1
  have hb := C0.2.2.2.1
  intro j
  induction j with
  | zero =>
    intro i hi H locs ls hH hL hl
    have hi : i = 8 := by omega
    subst hi
    refine lv_iload_n hx hb dX2_init_15 rfl (lv_at hl 0 rfl) ?_
    refine lv_aload_n hx hb dX2_init_16 rfl (lv_at hl 1 rfl) ?_
    refine ct_get C0 hH (Nat.le_refl a) (by omega) ((va_up_n (by omega)).trans hobj) (T := TX2) (N := 3) rfl 0 (by decide) cw_X2_f11 rfl rfl dX2_init_17 ?_
    refine ct_len C0 hH (by omega) (by omega) va_up_s dX2_init_20 ?_
    refine lv_icmp_ge (tgt := 43) hx hb dX2_init_21 (by decide) (fun _ => ?_) (fun z => absurd (show nI 8 ≤ nI 8 by decide) z)
    have hH := ct_ref (g := fun x => some (G.2.1 (μ.2.2 (a + 1) x))) hH (fun x hx => by
      have hB9 := (sh_pan_lt _ (hB x hx)).1
      rw [if_pos hx, hpt x hx, hρ _ (by omega)])
    refine ct_ret C0 hH (fun b h1 h2 => ?_) hL hret hlk dX2_init_43 (Nat.le_of_ble_eq_true rfl) (Nat.le_of_ble_eq_true rfl)
    refine (congrFun (va_up_id ?_) b).symm
    show _ = ev_E sh_S G μ (a + 1)
    rw [ev_E_14 hk]
    show _ = Sum.inl (G.2.2.2.1 14, sh_ln (a + 1), _)
    rw [hn]
  | succ j ih =>
    intro i hi H locs ls hH hL hl
    have hi8 : i < 8 := by omega
    refine lv_iload_n hx hb dX2_init_15 rfl (lv_at hl 0 rfl) ?_
    refine lv_aload_n hx hb dX2_init_16 rfl (lv_at hl 1 rfl) ?_
    refine ct_get C0 hH (Nat.le_refl a) (by omega) ((va_up_n (by omega)).trans hobj) (T := TX2) (N := 3) rfl 0 (by decide) cw_X2_f11 rfl rfl dX2_init_17 ?_
    refine ct_len C0 hH (by omega) (by omega) va_up_s dX2_init_20 ?_
    refine lv_icmp_ge (tgt := 43) hx hb dX2_init_21 (by decide) (fun z => ?_) (fun _ => ?_)
    · have z2 : nI 8 ≤ nI i := z
      rw [no_le (by omega) (by omega)] at z2
      omega
    refine lv_aload_n hx hb dX2_init_24 rfl (lv_at hl 1 rfl) ?_
    refine ct_get C0 hH (Nat.le_refl a) (by omega) ((va_up_n (by omega)).trans hobj) (T := TX2) (N := 3) rfl 0 (by decide) cw_X2_f11 rfl rfl dX2_init_25 ?_
    refine lv_iload_n hx hb dX2_init_28 rfl (lv_at hl 0 rfl) ?_
    have hT : ct_T G μ (yX4_init, cX4_init, 1, none, 3) [] (a + (2 + 22 * i)) 22 962 (.inr (2, [.int 0, .int 0, .int 0, .int 0, .int 0, .int 0, .int 0, .null, .null, .null, .null, .null, .null, .null, .null, .null, .null, .null])) := by
      rw [← Nat.add_assoc]
      exact ct_X4 hok hρ (hB i hi8) (fun b k h1 h2 => hz b k (by omega) (by omega))
    refine ct_new (μ := μ) C0 hH hL (fun b hb => va_up_n (by omega)) hl.1 (T9 := TX4) (N9 := 18) (ci := 2) rfl cw_X2_c9 cw_X4.1 cw_X4.2.1 tyX4_ok cd_X4 hT (by decide) ⟨rfl, rfl⟩ (Or.inr ⟨_, cw_X2_n17⟩) cw_X4.2.2.1 cw_X4.2.2.2 cp_X4 rfl ⟨Nat.le_of_ble_eq_true rfl, Nat.le_of_ble_eq_true rfl⟩ (by show 2 - 1 + 22 * i + 22 ≤ 178 - 1; omega) (by show 8 + 980 * i + 18 + 962 ≤ 7848; omega) (Nat.le_of_ble_eq_true rfl) dX2_init_29 dX2_init_32 (pc2 := 33) (fun _ _ _ r h => h) dX2_init_33 (fun H locs hH hL => ?_)
    have e1 : va_up (ct_E G μ) (a + 1) (.inl (G.2.2.2.1 14, 8, .inr (.inr (.inr (.inr (fun x => if x < i then some (ev_lo G + (a + 2 + 22 * x)) else none)))))) (a + (2 + 22 * i)) = .inr (2, (ev_tc 2).zipIdx.map (fun q => ev_tr G.2.1 (ev_fv sh_S μ (a + (2 + 22 * i)) q.2 q.1))) := by
      rw [va_up_n (by omega)]
      exact ev_E_obj (S := sh_S) (by rw [← Nat.add_assoc]; exact sh_pan_kd _ (hB i hi8) 0 (by decide)) (by decide)
    refine ct_ast C0 hH hL (b0 := a + 1) (b1 := a + (2 + 22 * i)) (by omega) (by omega) (by omega) (by omega) va_up_s e1 (vp_in_nI hi8 (by decide)) dX2_init_36 (fun H locs hH hL => ?_)
    refine lv_iinc (v := nI (i + 1)) (lv' := [(1, .int (nI (i + 1))), (0, .ref (ev_lo G + a))]) hx hb dX2_init_37 hl (k := 0) rfl (by rw [← nI_1]; rfl) (by decide) rfl (fun ls hl => ?_)
    refine lv_goto (tgt := 15) hx hb dX2_init_40 (by decide) ?_
    have e2 : 2 - 1 + 22 * i + 22 = 2 - 1 + 22 * (i + 1) := by omega
    have e3 : 8 + 980 * i + 18 + 962 = 8 + 980 * (i + 1) := by omega
    have e4 : 2 + 22 * i + 22 = 2 + 22 * (i + 1) := by omega
    rw [e2, e3]
    have e5 : va_up_f (fun x => if x < i then some (ev_lo G + (a + 2 + 22 * x)) else none) (nI i).toNatClampNeg (some (ev_lo G + (a + (2 + 22 * i)))) = (fun x => if x < i + 1 then some (ev_lo G + (a + 2 + 22 * x)) else none) := by
      funext x
      unfold va_up_f
      rw [nI_clamp (by omega), ← Nat.add_assoc a]
      by_cases c1 : x = i
      · rw [if_pos c1, if_pos (by omega), c1]
      · rw [if_neg c1]
        show (if x < i then some (ev_lo G + (a + 2 + 22 * x)) else none) = _
        by_cases c2 : x < i
        · rw [if_pos c2, if_pos (by omega)]
        · rw [if_neg c2, if_neg (by omega)]
    rw [e4, va_up_2, e5] at hH
    exact ih (i + 1) (by omega) H locs ls hH hL hl
set_option maxRecDepth 100000 in
set_option maxHeartbeats 2000000 in
theorem ct_X2 (hok : ev_ok sh_S G) (hρ : ∀ a : Nat, a < 312 → G.2.1 a = ev_lo G + a) {a : Nat} (k0 : sh_kd a = 1) (hk : sh_kd (a + 1) = 14) (hn : sh_ln (a + 1) = 8) (hpt : ∀ i, i < 8 → μ.2.2 (a + 1) i = a + 2 + 22 * i) (hB : ∀ i, i < 8 → a + 2 + 22 * i ∈ sh_B) (ha : a + 178 ≤ 312) (hz : ∀ b k, a ≤ b → b < a + 178 → μ.1 b k = 0 ∧ μ.2.1 b k = 0) : ct_T G μ (yX2_init, cX2_init, 2, none, 4) [] a 178 (7848) (.inr (1, [.null, .int 0, .int 0])) := by
  refine ct_of hok hρ (by decide +kernel) rfl (Nat.le_of_ble_eq_true rfl) (fun p e s m args below meth c C0 hlk hret hin2 hH ls hl => ?_)
  have hl : lv_has ls 2 [(0, .ref (ev_lo G + a))] := hl
  have hx := C0.2.2.1
  have hb := C0.2.2.2.1
  have hL : ∀ q ∈ ([] : List Loc), ev_lo G + a ≤ q.base := fun _ h => by cases h
  have hobj : ct_E G μ a = .inr (1, [.ref (ev_lo G + (a + 1)), .int 0, .int 0]) := by
    show ev_E sh_S G μ a = _
    rw [ev_E_obj (ci := 1) k0 (by decide)]
    have e : ∀ k, sh_pt a k = a + sh_of 1 k := fun k => by unfold sh_pt; rw [k0]
    have z : ∀ k, μ.1 a k = 0 := fun k => (hz a k (by omega) (by omega)).1
    show Sum.inr (1, [Value.ref (G.2.1 (sh_pt a 0)), .int (μ.1 a 1), .int (μ.1 a 2)]) = _
    rw [e 0, hρ (a + sh_of 1 0) (by show a + 1 < 312; omega), z 1, z 2]
    rfl
  refine lv_aload_n hx hb dX2_init_0 rfl (lv_at hl 0 rfl) ?_
  refine ct_oi C0 hl.1 cw_X2_oi cw_oi.1 cw_oi.2 ⟨Nat.le_of_ble_eq_true rfl, Nat.le_of_ble_eq_true rfl⟩ dX2_init_1 ?_
  refine lv_aload_n hx hb dX2_init_4 rfl (lv_at hl 0 rfl) ?_
  refine lv_bipush (v := 8) hx hb dX2_init_5 (by decide) ?_
  refine ct_anew (N := 8) C0 hH cw_X2_c9 cw_ao (by decide) (by decide) (Nat.le_of_ble_eq_true rfl) (Nat.le_of_ble_eq_true rfl) (Nat.le_of_ble_eq_true rfl) dX2_init_7 (fun H hH => ?_)
  refine ct_put C0 hH hL (b := a) (Nat.le_refl a) (by omega) ((va_up_n (by omega)).trans va_up_s) (T := TX2) (N := 3) rfl 0 (by decide) cw_X2_f11 rfl hin2 (tyX2_ok 0 (by decide)) rfl rfl (Nat.le_of_ble_eq_true rfl) dX2_init_10 (fun H locs hH hL => ?_)
  refine lv_iconst (v := 0) hx hb dX2_init_13 rfl ?_
  refine lv_istore_n (lv' := [(1, .int (nI 0)), (0, .ref (ev_lo G + a))]) hx hb dX2_init_14 rfl hl (by decide) rfl (fun ls hl => ?_)
  refine cl_X2 hok hρ hobj hk hn hpt hB (fun b k h1 h2 => hz b k (by omega) (by omega)) C0 hlk hret 8 0 (by decide) H locs ls (ct_eq hH (fun b h1 h2 => ?_)) hL hl
  by_cases c1 : b = a
  · subst c1
    rw [va_up_s, va_up_n (by omega), hobj]
    rfl
  · by_cases c2 : b = a + 1
    · subst c2
      rw [va_up_s, va_up_n c1, va_up_s]
      exact congrArg (fun g : Nat → Option Nat => (Sum.inl (G.2.2.2.1 14, 8, .inr (.inr (.inr (.inr g)))) : va_E)) (funext fun x => if_neg (Nat.not_lt_zero x))
    · rw [va_up_n c1, va_up_n c2, va_up_n c2, va_up_n c1]
set_option maxRecDepth 100000 in
set_option maxHeartbeats 2000000 in
theorem cl_X10 (hok : ev_ok sh_S G) (hρ : ∀ a : Nat, a < 312 → G.2.1 a = ev_lo G + a) {a : Nat} (hobj : ct_E G μ a = .inr (8, [.ref (ev_lo G + (a + 1)), .ref (ev_lo G + (a + 3)), .ref (ev_lo G + (a + 5)), .ref (ev_lo G + (a + 34)), .ref (ev_lo G + (a + 56)), .ref (ev_lo G + (a + 78)), .ref (ev_lo G + (a + 256))])) (hk : sh_kd (a + 256) = 14) (hn : sh_ln (a + 256) = 2) (hpt : ∀ i, i < 2 → μ.2.2 (a + 256) i = a + 257 + 22 * i) (hB : ∀ i, i < 2 → a + 257 + 22 * i ∈ sh_B) (hz : ∀ b k, a + 257 ≤ b → b < a + 257 + 22 * 2 → μ.1 b k = 0 ∧ μ.2.1 b k = 0)
    {p : Program} {e : Env} {s : State} {m : MethodId} {args : Array Value} {below : List Frame} {meth : Method} {c : Code} (C0 : ct_C G p s m c cX10_init yX10_init.cls 2) (hlk : meth.locks = false) (hret : meth.sig.returnType = none) :
    ∀ (j i : Nat), i + j = 2 → ∀ (H : Heap) (locs : List Loc) (ls : Array Slot), ct_H G (va_up (ct_E G μ) (a + 256) (.inl (G.2.2.2.1 14, 2, .inr (.inr (.inr (.inr (fun x => if x < i then some (ev_lo G + (a + 257 + 22 * x)) else none))))))) a (257 + 22 * i) s.heap H → (∀ q ∈ locs, ev_lo G + a ≤ q.base) → lv_has ls 2 [(1, .int (nI i)), (0, .ref (ev_lo G + a))] →
      W p G.1 e { frames := 5, cells := 301 - 1, slots := 14845, locals := 40 * 5 } s m args below meth c H locs (257 - 1 + 22 * i) (12885 + 980 * i) (MQ below (fun _ st o t => o = .returned none ∧ ct_H G (ct_E G μ) a 301 st.heap t.heap) args s (301 - 1) (14845) (fun q => ev_lo G + a ≤ q)) (F0 m 85 ls []) := by
  have hx := C0.2.2.1
  have hb := C0.2.2.2.1
  intro j
  induction j with
  | zero =>
    intro i hi H locs ls hH hL hl
    have hi : i = 2 := by omega
    subst hi
    refine lv_iload_n hx hb dX10_init_85 rfl (lv_at hl 0 rfl) ?_
    refine lv_aload_n hx hb dX10_init_86 rfl (lv_at hl 1 rfl) ?_
    refine ct_get C0 hH (Nat.le_refl a) (by omega) ((va_up_n (by omega)).trans hobj) (T := TX10) (N := 7) rfl 6 (by decide) cw_X10_f45 rfl rfl dX10_init_87 ?_
    refine ct_len C0 hH (by omega) (by omega) va_up_s dX10_init_90 ?_
    refine lv_icmp_ge (tgt := 113) hx hb dX10_init_91 (by decide) (fun _ => ?_) (fun z => absurd (show nI 2 ≤ nI 2 by decide) z)
    have hH := ct_ref (g := fun x => some (G.2.1 (μ.2.2 (a + 256) x))) hH (fun x hx => by
      have hB9 := (sh_pan_lt _ (hB x hx)).1
      rw [if_pos hx, hpt x hx, hρ _ (by omega)])
    refine ct_ret C0 hH (fun b h1 h2 => ?_) hL hret hlk dX10_init_113 (Nat.le_of_ble_eq_true rfl) (Nat.le_of_ble_eq_true rfl)
    refine (congrFun (va_up_id ?_) b).symm
    show _ = ev_E sh_S G μ (a + 256)
    rw [ev_E_14 hk]
    show _ = Sum.inl (G.2.2.2.1 14, sh_ln (a + 256), _)
    rw [hn]
  | succ j ih =>
    intro i hi H locs ls hH hL hl
    have hi8 : i < 2 := by omega
    refine lv_iload_n hx hb dX10_init_85 rfl (lv_at hl 0 rfl) ?_
    refine lv_aload_n hx hb dX10_init_86 rfl (lv_at hl 1 rfl) ?_
    refine ct_get C0 hH (Nat.le_refl a) (by omega) ((va_up_n (by omega)).trans hobj) (T := TX10) (N := 7) rfl 6 (by decide) cw_X10_f45 rfl rfl dX10_init_87 ?_
    refine ct_len C0 hH (by omega) (by omega) va_up_s dX10_init_90 ?_
    refine lv_icmp_ge (tgt := 113) hx hb dX10_init_91 (by decide) (fun z => ?_) (fun _ => ?_)
    · have z2 : nI 2 ≤ nI i := z
      rw [no_le (by omega) (by omega)] at z2
      omega
    refine lv_aload_n hx hb dX10_init_94 rfl (lv_at hl 1 rfl) ?_
    refine ct_get C0 hH (Nat.le_refl a) (by omega) ((va_up_n (by omega)).trans hobj) (T := TX10) (N := 7) rfl 6 (by decide) cw_X10_f45 rfl rfl dX10_init_95 ?_
    refine lv_iload_n hx hb dX10_init_98 rfl (lv_at hl 0 rfl) ?_
    have hT : ct_T G μ (yX4_init, cX4_init, 1, none, 3) [] (a + (257 + 22 * i)) 22 962 (.inr (2, [.int 0, .int 0, .int 0, .int 0, .int 0, .int 0, .int 0, .null, .null, .null, .null, .null, .null, .null, .null, .null, .null, .null])) := by
      rw [← Nat.add_assoc]
      exact ct_X4 hok hρ (hB i hi8) (fun b k h1 h2 => hz b k (by omega) (by omega))
    refine ct_new (μ := μ) C0 hH hL (fun b hb => va_up_n (by omega)) hl.1 (T9 := TX4) (N9 := 18) (ci := 2) rfl cw_X10_c28 cw_X4.1 cw_X4.2.1 tyX4_ok cd_X4 hT (by decide) ⟨rfl, rfl⟩ (Or.inr ⟨_, cw_X10_n30⟩) cw_X4.2.2.1 cw_X4.2.2.2 cp_X4 rfl ⟨Nat.le_of_ble_eq_true rfl, Nat.le_of_ble_eq_true rfl⟩ (by show 257 - 1 + 22 * i + 22 ≤ 301 - 1; omega) (by show 12885 + 980 * i + 18 + 962 ≤ 14845; omega) (Nat.le_of_ble_eq_true rfl) dX10_init_99 dX10_init_102 (pc2 := 103) (fun _ _ _ r h => h) dX10_init_103 (fun H locs hH hL => ?_)
    have e1 : va_up (ct_E G μ) (a + 256) (.inl (G.2.2.2.1 14, 2, .inr (.inr (.inr (.inr (fun x => if x < i then some (ev_lo G + (a + 257 + 22 * x)) else none)))))) (a + (257 + 22 * i)) = .inr (2, (ev_tc 2).zipIdx.map (fun q => ev_tr G.2.1 (ev_fv sh_S μ (a + (257 + 22 * i)) q.2 q.1))) := by
      rw [va_up_n (by omega)]
      exact ev_E_obj (S := sh_S) (by rw [← Nat.add_assoc]; exact sh_pan_kd _ (hB i hi8) 0 (by decide)) (by decide)
    refine ct_ast C0 hH hL (b0 := a + 256) (b1 := a + (257 + 22 * i)) (by omega) (by omega) (by omega) (by omega) va_up_s e1 (vp_in_nI hi8 (by decide)) dX10_init_106 (fun H locs hH hL => ?_)
    refine lv_iinc (v := nI (i + 1)) (lv' := [(1, .int (nI (i + 1))), (0, .ref (ev_lo G + a))]) hx hb dX10_init_107 hl (k := 0) rfl (by rw [← nI_1]; rfl) (by decide) rfl (fun ls hl => ?_)
    refine lv_goto (tgt := 85) hx hb dX10_init_110 (by decide) ?_
    have e2 : 257 - 1 + 22 * i + 22 = 257 - 1 + 22 * (i + 1) := by omega
    have e3 : 12885 + 980 * i + 18 + 962 = 12885 + 980 * (i + 1) := by omega
    have e4 : 257 + 22 * i + 22 = 257 + 22 * (i + 1) := by omega
    rw [e2, e3]
    have e5 : va_up_f (fun x => if x < i then some (ev_lo G + (a + 257 + 22 * x)) else none) (nI i).toNatClampNeg (some (ev_lo G + (a + (257 + 22 * i)))) = (fun x => if x < i + 1 then some (ev_lo G + (a + 257 + 22 * x)) else none) := by
      funext x
      unfold va_up_f
      rw [nI_clamp (by omega), ← Nat.add_assoc a]
      by_cases c1 : x = i
      · rw [if_pos c1, if_pos (by omega), c1]
      · rw [if_neg c1]
        show (if x < i then some (ev_lo G + (a + 257 + 22 * x)) else none) = _
        by_cases c2 : x < i
        · rw [if_pos c2, if_pos (by omega)]
        · rw [if_neg c2, if_neg (by omega)]
    rw [e4, va_up_2, e5] at hH
    exact ih (i + 1) (by omega) H locs ls hH hL hl
set_option maxRecDepth 100000 in
set_option maxHeartbeats 2000000 in
theorem ct_X10 (hok : ev_ok sh_S G) (hρ : ∀ a : Nat, a < 312 → G.2.1 a = ev_lo G + a) {a : Nat} (hA : a = 0) (hz : ∀ b k, b < 301 → b ≠ 5 → μ.1 b k = 0 ∧ μ.2.1 b k = 0) (hz5 : ∀ k, μ.1 5 k = if k = 2 then -1 else 0) (hp79 : ∀ i, i < 8 → μ.2.2 79 i = 80 + 22 * i) (hp256 : ∀ i, i < 2 → μ.2.2 256 i = 257 + 22 * i) : ct_T G μ (yX10_init, cX10_init, 2, none, 5) [] a 301 (14845) (.inr (8, [.null, .null, .null, .null, .null, .null, .null])) := by
  refine ct_of hok hρ (by decide +kernel) rfl (Nat.le_of_ble_eq_true rfl) (fun p e s m args below meth c C0 hlk hret hin2 hH ls hl => ?_)
  have hl : lv_has ls 2 [(0, .ref (ev_lo G + a))] := hl
  have hx := C0.2.2.1
  have hb := C0.2.2.2.1
  have hL : ∀ q ∈ ([] : List Loc), ev_lo G + a ≤ q.base := fun _ h => by cases h
  have hobj : ct_E G μ a = .inr (8, [.ref (ev_lo G + (a + 1)), .ref (ev_lo G + (a + 3)), .ref (ev_lo G + (a + 5)), .ref (ev_lo G + (a + 34)), .ref (ev_lo G + (a + 56)), .ref (ev_lo G + (a + 78)), .ref (ev_lo G + (a + 256))]) := by
    show ev_E sh_S G μ a = _
    have k0 : sh_kd a = 8 := by rw [hA]; rfl
    rw [ev_E_obj (ci := 8) k0 (by decide)]
    have e : ∀ k, sh_pt a k = a + sh_of 8 k := fun k => by unfold sh_pt; rw [k0]
    show Sum.inr (8, [Value.ref (G.2.1 (sh_pt a 0)), Value.ref (G.2.1 (sh_pt a 1)), Value.ref (G.2.1 (sh_pt a 2)), Value.ref (G.2.1 (sh_pt a 3)), Value.ref (G.2.1 (sh_pt a 4)), Value.ref (G.2.1 (sh_pt a 5)), Value.ref (G.2.1 (sh_pt a 6))]) = _
    rw [e 0, e 1, e 2, e 3, e 4, e 5, e 6]
    rw [hρ (a + sh_of 8 0) (by show a + 1 < 312; omega), hρ (a + sh_of 8 1) (by show a + 3 < 312; omega), hρ (a + sh_of 8 2) (by show a + 5 < 312; omega), hρ (a + sh_of 8 3) (by show a + 34 < 312; omega), hρ (a + sh_of 8 4) (by show a + 56 < 312; omega), hρ (a + sh_of 8 5) (by show a + 78 < 312; omega), hρ (a + sh_of 8 6) (by show a + 256 < 312; omega)]
    rfl
  refine lv_aload_n hx hb dX10_init_0 rfl (lv_at hl 0 rfl) ?_
  refine ct_oi C0 hl.1 cw_X10_oi cw_oi.1 cw_oi.2 ⟨Nat.le_of_ble_eq_true rfl, Nat.le_of_ble_eq_true rfl⟩ dX10_init_1 ?_
  refine lv_aload_n hx hb dX10_init_4 rfl (lv_at hl 0 rfl) ?_
  refine ct_new (μ := μ) C0 hH hL (fun b hb => va_up_n (by omega)) hl.1 (T9 := TX1) (N9 := 2) (ci := 0) rfl cw_X10_c7 cw_X1.1 cw_X1.2.1 tyX1_ok cd_X1 (ct_X1 (a := a + 1) (cap := 500) hok hρ (by rw [hA]; rfl) (by rw [hA]; rfl) (by rw [hA]; rfl) (by decide) (by decide) (by omega) (fun b k h1 h2 => hz b k (by omega) (by omega))) (by decide) ⟨rfl, rfl⟩ (Or.inl cw_X10_m11) cw_X1.2.2.1 cw_X1.2.2.2 cp_X1 rfl ⟨Nat.le_of_ble_eq_true rfl, Nat.le_of_ble_eq_true rfl⟩ (Nat.le_of_ble_eq_true rfl) (Nat.le_of_ble_eq_true rfl) (Nat.le_of_ble_eq_true rfl) dX10_init_5 dX10_init_8 (pc2 := 12) (fun _ _ _ r h => by refine lv_sipush (v := nI 500) hx hb dX10_init_9 (by decide) ?_; exact h) dX10_init_12 (fun H locs hH hL => ?_)
  refine ct_putO C0 hH hL (by omega) (T := TX10) (N := 7) rfl 0 (by decide) cw_X10_f14 rfl hin2 (tyX10_ok 0 (by decide)) rfl rfl (Nat.le_of_ble_eq_true rfl) dX10_init_15 (fun H locs hH hL => ?_)
  have hH : ct_H G (va_up (ct_E G μ) a (.inr (8, [.ref (ev_lo G + (a + 1)), .null, .null, .null, .null, .null, .null]))) a 3 s.heap H := hH
  refine lv_aload_n hx hb dX10_init_18 rfl (lv_at hl 0 rfl) ?_
  refine ct_new (μ := μ) C0 hH hL (fun b hb => va_up_n (by omega)) hl.1 (T9 := TX1) (N9 := 2) (ci := 0) rfl cw_X10_c7 cw_X1.1 cw_X1.2.1 tyX1_ok cd_X1 (ct_X1 (a := a + 3) (cap := 64) hok hρ (by rw [hA]; rfl) (by rw [hA]; rfl) (by rw [hA]; rfl) (by decide) (by decide) (by omega) (fun b k h1 h2 => hz b k (by omega) (by omega))) (by decide) ⟨rfl, rfl⟩ (Or.inl cw_X10_m11) cw_X1.2.2.1 cw_X1.2.2.2 cp_X1 rfl ⟨Nat.le_of_ble_eq_true rfl, Nat.le_of_ble_eq_true rfl⟩ (Nat.le_of_ble_eq_true rfl) (Nat.le_of_ble_eq_true rfl) (Nat.le_of_ble_eq_true rfl) dX10_init_19 dX10_init_22 (pc2 := 25) (fun _ _ _ r h => by refine lv_bipush (v := nI 64) hx hb dX10_init_23 (by decide) ?_; exact h) dX10_init_25 (fun H locs hH hL => ?_)
  refine ct_putO C0 hH hL (by omega) (T := TX10) (N := 7) rfl 1 (by decide) cw_X10_f18 rfl hin2 (tyX10_ok 1 (by decide)) rfl rfl (Nat.le_of_ble_eq_true rfl) dX10_init_28 (fun H locs hH hL => ?_)
  have hH : ct_H G (va_up (ct_E G μ) a (.inr (8, [.ref (ev_lo G + (a + 1)), .ref (ev_lo G + (a + 3)), .null, .null, .null, .null, .null]))) a 5 s.heap H := hH
  refine lv_aload_n hx hb dX10_init_31 rfl (lv_at hl 0 rfl) ?_
  refine ct_new (μ := μ) C0 hH hL (fun b hb => va_up_n (by omega)) hl.1 (T9 := TX7) (N9 := 8) (ci := 5) rfl cw_X10_c21 cw_X7.1 cw_X7.2.1 tyX7_ok cd_X7 (ct_X7 (a := a + 5) hok hρ (by rw [hA]; rfl) (by rw [hA]; decide) (by rw [hA]; rfl) (by rw [hA]; exact ⟨rfl, rfl, rfl⟩) (by rw [hA]; exact ⟨rfl, rfl, rfl⟩) (by rw [hA]; exact ⟨rfl, rfl, rfl, rfl⟩) (by omega) (fun b k h1 h2 => hz b k (by omega) (by omega)) (fun k => by rw [hA]; exact hz5 k)) (by decide) ⟨rfl, rfl⟩ (Or.inr ⟨_, cw_X10_n23⟩) cw_X7.2.2.1 cw_X7.2.2.2 cp_X7 rfl ⟨Nat.le_of_ble_eq_true rfl, Nat.le_of_ble_eq_true rfl⟩ (Nat.le_of_ble_eq_true rfl) (Nat.le_of_ble_eq_true rfl) (Nat.le_of_ble_eq_true rfl) dX10_init_32 dX10_init_35 (pc2 := 36) (fun _ _ _ r h => by  exact h) dX10_init_36 (fun H locs hH hL => ?_)
  refine ct_putO C0 hH hL (by omega) (T := TX10) (N := 7) rfl 2 (by decide) cw_X10_f24 rfl hin2 (tyX10_ok 2 (by decide)) rfl rfl (Nat.le_of_ble_eq_true rfl) dX10_init_39 (fun H locs hH hL => ?_)
  have hH : ct_H G (va_up (ct_E G μ) a (.inr (8, [.ref (ev_lo G + (a + 1)), .ref (ev_lo G + (a + 3)), .ref (ev_lo G + (a + 5)), .null, .null, .null, .null]))) a 34 s.heap H := hH
  refine lv_aload_n hx hb dX10_init_42 rfl (lv_at hl 0 rfl) ?_
  refine ct_new (μ := μ) C0 hH hL (fun b hb => va_up_n (by omega)) hl.1 (T9 := TX4) (N9 := 18) (ci := 2) rfl cw_X10_c28 cw_X4.1 cw_X4.2.1 tyX4_ok cd_X4 (ct_X4 (a := a + 34) hok hρ (by rw [hA]; decide) (fun b k h1 h2 => hz b k (by omega) (by omega))) (by decide) ⟨rfl, rfl⟩ (Or.inr ⟨_, cw_X10_n30⟩) cw_X4.2.2.1 cw_X4.2.2.2 cp_X4 rfl ⟨Nat.le_of_ble_eq_true rfl, Nat.le_of_ble_eq_true rfl⟩ (Nat.le_of_ble_eq_true rfl) (Nat.le_of_ble_eq_true rfl) (Nat.le_of_ble_eq_true rfl) dX10_init_43 dX10_init_46 (pc2 := 47) (fun _ _ _ r h => by  exact h) dX10_init_47 (fun H locs hH hL => ?_)
  refine ct_putO C0 hH hL (by omega) (T := TX10) (N := 7) rfl 3 (by decide) cw_X10_f31 rfl hin2 (tyX10_ok 3 (by decide)) rfl rfl (Nat.le_of_ble_eq_true rfl) dX10_init_50 (fun H locs hH hL => ?_)
  have hH : ct_H G (va_up (ct_E G μ) a (.inr (8, [.ref (ev_lo G + (a + 1)), .ref (ev_lo G + (a + 3)), .ref (ev_lo G + (a + 5)), .ref (ev_lo G + (a + 34)), .null, .null, .null]))) a 56 s.heap H := hH
  refine lv_aload_n hx hb dX10_init_53 rfl (lv_at hl 0 rfl) ?_
  refine ct_new (μ := μ) C0 hH hL (fun b hb => va_up_n (by omega)) hl.1 (T9 := TX4) (N9 := 18) (ci := 2) rfl cw_X10_c28 cw_X4.1 cw_X4.2.1 tyX4_ok cd_X4 (ct_X4 (a := a + 56) hok hρ (by rw [hA]; decide) (fun b k h1 h2 => hz b k (by omega) (by omega))) (by decide) ⟨rfl, rfl⟩ (Or.inr ⟨_, cw_X10_n30⟩) cw_X4.2.2.1 cw_X4.2.2.2 cp_X4 rfl ⟨Nat.le_of_ble_eq_true rfl, Nat.le_of_ble_eq_true rfl⟩ (Nat.le_of_ble_eq_true rfl) (Nat.le_of_ble_eq_true rfl) (Nat.le_of_ble_eq_true rfl) dX10_init_54 dX10_init_57 (pc2 := 58) (fun _ _ _ r h => by  exact h) dX10_init_58 (fun H locs hH hL => ?_)
  refine ct_putO C0 hH hL (by omega) (T := TX10) (N := 7) rfl 4 (by decide) cw_X10_f35 rfl hin2 (tyX10_ok 4 (by decide)) rfl rfl (Nat.le_of_ble_eq_true rfl) dX10_init_61 (fun H locs hH hL => ?_)
  have hH : ct_H G (va_up (ct_E G μ) a (.inr (8, [.ref (ev_lo G + (a + 1)), .ref (ev_lo G + (a + 3)), .ref (ev_lo G + (a + 5)), .ref (ev_lo G + (a + 34)), .ref (ev_lo G + (a + 56)), .null, .null]))) a 78 s.heap H := hH
  refine lv_aload_n hx hb dX10_init_64 rfl (lv_at hl 0 rfl) ?_
  refine ct_new (μ := μ) C0 hH hL (fun b hb => va_up_n (by omega)) hl.1 (T9 := TX2) (N9 := 3) (ci := 1) rfl cw_X10_c38 cw_X2.1 cw_X2.2.1 tyX2_ok cd_X2 (ct_X2 (a := a + 78) hok hρ (by rw [hA]; rfl) (by rw [hA]; rfl) (by rw [hA]; rfl) (fun i hi => by rw [hA]; exact hp79 i hi) (fun i hi => by rw [hA]; exact sh_B79 i hi) (by omega) (fun b k h1 h2 => hz b k (by omega) (by omega))) (by decide) ⟨rfl, rfl⟩ (Or.inl cw_X10_m40) cw_X2.2.2.1 cw_X2.2.2.2 cp_X2 rfl ⟨Nat.le_of_ble_eq_true rfl, Nat.le_of_ble_eq_true rfl⟩ (Nat.le_of_ble_eq_true rfl) (Nat.le_of_ble_eq_true rfl) (Nat.le_of_ble_eq_true rfl) dX10_init_65 dX10_init_68 (pc2 := 69) (fun _ _ _ r h => by  exact h) dX10_init_69 (fun H locs hH hL => ?_)
  refine ct_putO C0 hH hL (by omega) (T := TX10) (N := 7) rfl 5 (by decide) cw_X10_f41 rfl hin2 (tyX10_ok 5 (by decide)) rfl rfl (Nat.le_of_ble_eq_true rfl) dX10_init_72 (fun H locs hH hL => ?_)
  have hH : ct_H G (va_up (ct_E G μ) a (.inr (8, [.ref (ev_lo G + (a + 1)), .ref (ev_lo G + (a + 3)), .ref (ev_lo G + (a + 5)), .ref (ev_lo G + (a + 34)), .ref (ev_lo G + (a + 56)), .ref (ev_lo G + (a + 78)), .null]))) a 256 s.heap H := hH
  refine lv_aload_n hx hb dX10_init_75 rfl (lv_at hl 0 rfl) ?_
  refine lv_iconst (v := 2) hx hb dX10_init_76 (by decide) ?_
  refine ct_anew (N := 2) C0 hH cw_X10_c28 cw_ao (by decide) (by decide) (Nat.le_of_ble_eq_true rfl) (Nat.le_of_ble_eq_true rfl) (Nat.le_of_ble_eq_true rfl) dX10_init_77 (fun H hH => ?_)
  refine ct_put C0 hH hL (b := a) (Nat.le_refl a) (by omega) ((va_up_n (by omega)).trans va_up_s) (T := TX10) (N := 7) rfl 6 (by decide) cw_X10_f45 rfl hin2 (tyX10_ok 6 (by decide)) rfl rfl (Nat.le_of_ble_eq_true rfl) dX10_init_80 (fun H locs hH hL => ?_)
  refine lv_iconst (v := 0) hx hb dX10_init_83 rfl ?_
  refine lv_istore_n (lv' := [(1, .int (nI 0)), (0, .ref (ev_lo G + a))]) hx hb dX10_init_84 rfl hl (by decide) rfl (fun ls hl => ?_)
  refine W.widen (k := 257 - 1 + 22 * 0) (n := 12885 + 980 * 0) (Nat.le_of_ble_eq_true rfl) (Nat.le_of_ble_eq_true rfl) ?_
  refine cl_X10 hok hρ hobj (by rw [hA]; rfl) (by rw [hA]; rfl) (fun i hi => by rw [hA]; have := hp256 i hi; rw [Nat.zero_add, Nat.zero_add]; exact this) (fun i hi => by rw [hA]; exact sh_B256 i hi) (fun b k h1 h2 => hz b k (by omega) (by omega)) C0 hlk hret 2 0 (by decide) H locs ls (ct_eq hH (fun b h1 h2 => ?_)) hL hl
  by_cases c1 : b = a
  · subst c1
    rw [va_up_s, va_up_n (by omega), hobj]
    rfl
  · by_cases c2 : b = a + 256
    · subst c2
      rw [va_up_s, va_up_n c1, va_up_s]
      exact congrArg (fun g : Nat → Option Nat => (Sum.inl (G.2.2.2.1 14, 2, .inr (.inr (.inr (.inr g)))) : va_E)) (funext fun x => if_neg (Nat.not_lt_zero x))
    · rw [va_up_n c1, va_up_n c2, va_up_n c2, va_up_n c1]
end Ctors
