/-! words: Object.<init>, arraycopy, makings, constants (printed by program) -/
theorem knX2_9 : Cond.classLink RX2 9 RX3 ∈ WS ∧ Cond.instantiable RX3 10 ∈ WS ∧ Cond.initialized RX3 ∈ WS := ⟨gws 145 (by decide +kernel) (by decide +kernel), gws 49 (by decide +kernel) (by decide +kernel), kiRX3⟩
theorem knX3_9 : Cond.classLink RX3 9 RX1 ∈ WS ∧ Cond.instantiable RX1 9 ∈ WS ∧ Cond.initialized RX1 ∈ WS := ⟨gws 54 (by decide +kernel) (by decide +kernel), gws 56 (by decide +kernel) (by decide +kernel), kiRX1⟩
theorem knX4_16 : Cond.classLink RX4 16 RX2 ∈ WS ∧ Cond.instantiable RX2 2 ∈ WS ∧ Cond.initialized RX2 ∈ WS := ⟨gws 139 (by decide +kernel) (by decide +kernel), gws 140 (by decide +kernel) (by decide +kernel), kiRX2⟩
theorem knX4_23 : Cond.classLink RX4 23 RX0 ∈ WS ∧ Cond.instantiable RX0 2 ∈ WS ∧ Cond.initialized RX0 ∈ WS := ⟨gws 156 (by decide +kernel) (by decide +kernel), gws 157 (by decide +kernel) (by decide +kernel), kiRX0⟩
theorem knX4_7 : Cond.classLink RX4 7 RX3 ∈ WS ∧ Cond.instantiable RX3 10 ∈ WS ∧ Cond.initialized RX3 ∈ WS := ⟨gws 48 (by decide +kernel) (by decide +kernel), gws 49 (by decide +kernel) (by decide +kernel), kiRX3⟩
theorem knL_77 : Cond.classLink RL 77 RX5 ∈ WS ∧ Cond.instantiable RX5 11 ∈ WS ∧ Cond.initialized RX5 ∈ WS := ⟨gws 770 (by decide +kernel) (by decide +kernel), gws 771 (by decide +kernel) (by decide +kernel), kiRX5⟩
theorem knL_8 : Cond.classLink RL 8 RX4 ∈ WS ∧ Cond.instantiable RX4 3 ∈ WS ∧ Cond.initialized RX4 ∈ WS := ⟨gws 40 (by decide +kernel) (by decide +kernel), gws 41 (by decide +kernel) (by decide +kernel), kiRX4⟩
theorem koX0_3 : Cond.methodLink RX0 3 objectInit ∈ WS ∧ Cond.instanceMethod objectInit ∈ WS ∧ Cond.code objectInit ⟨#[0xb1]⟩ 1 none ∈ WS := ⟨gws 161 (by decide +kernel) (by decide +kernel), gws 46 (by decide +kernel) (by decide +kernel), gws 47 (by decide +kernel) (by decide +kernel)⟩
theorem kaX1_26 : Cond.methodLink RX1 26 arraycopyName ∈ WS ∧ Cond.native arraycopyName ∈ WS ∧ Cond.static arraycopyName ∈ WS ∧ Cond.initialized "java/lang/System" ∈ WS := ⟨gws 464 (by decide +kernel) (by decide +kernel), gws 466 (by decide +kernel) (by decide +kernel), gws 465 (by decide +kernel) (by decide +kernel), kiSystem⟩
theorem koX1_3 : Cond.methodLink RX1 3 objectInit ∈ WS ∧ Cond.instanceMethod objectInit ∈ WS ∧ Cond.code objectInit ⟨#[0xb1]⟩ 1 none ∈ WS := ⟨gws 60 (by decide +kernel) (by decide +kernel), gws 46 (by decide +kernel) (by decide +kernel), gws 47 (by decide +kernel) (by decide +kernel)⟩
theorem koX2_3 : Cond.methodLink RX2 3 objectInit ∈ WS ∧ Cond.instanceMethod objectInit ∈ WS ∧ Cond.code objectInit ⟨#[0xb1]⟩ 1 none ∈ WS := ⟨gws 144 (by decide +kernel) (by decide +kernel), gws 46 (by decide +kernel) (by decide +kernel), gws 47 (by decide +kernel) (by decide +kernel)⟩
theorem koX3_3 : Cond.methodLink RX3 3 objectInit ∈ WS ∧ Cond.instanceMethod objectInit ∈ WS ∧ Cond.code objectInit ⟨#[0xb1]⟩ 1 none ∈ WS := ⟨gws 53 (by decide +kernel) (by decide +kernel), gws 46 (by decide +kernel) (by decide +kernel), gws 47 (by decide +kernel) (by decide +kernel)⟩
theorem koX4_1 : Cond.methodLink RX4 1 objectInit ∈ WS ∧ Cond.instanceMethod objectInit ∈ WS ∧ Cond.code objectInit ⟨#[0xb1]⟩ 1 none ∈ WS := ⟨gws 45 (by decide +kernel) (by decide +kernel), gws 46 (by decide +kernel) (by decide +kernel), gws 47 (by decide +kernel) (by decide +kernel)⟩
theorem koX5_1 : Cond.methodLink RX5 1 objectInit ∈ WS ∧ Cond.instanceMethod objectInit ∈ WS ∧ Cond.code objectInit ⟨#[0xb1]⟩ 1 none ∈ WS := ⟨gws 775 (by decide +kernel) (by decide +kernel), gws 46 (by decide +kernel) (by decide +kernel), gws 47 (by decide +kernel) (by decide +kernel)⟩
theorem kar_int : Cond.arrayClass .int ∈ WS := gws 98 (by decide +kernel) (by decide +kernel)
theorem kar_char : Cond.arrayClass .char ∈ WS := gws 170 (by decide +kernel) (by decide +kernel)
theorem kar_long : Cond.arrayClass .long ∈ WS := gws 1062 (by decide +kernel) (by decide +kernel)
theorem kkX4_194 : Cond.constantLong RX4 194 (3499) ∈ WS := gws 286 (by decide +kernel) (by decide +kernel)
theorem kkX4_279 : Cond.constantLong RX4 279 (31) ∈ WS := gws 300 (by decide +kernel) (by decide +kernel)
theorem kkX4_290 : Cond.constantLong RX4 290 (1023) ∈ WS := gws 341 (by decide +kernel) (by decide +kernel)
theorem kkX4_292 : Cond.constantDouble RX4 292 (4611686018427387904) ∈ WS := gws 342 (by decide +kernel) (by decide +kernel)
theorem kkX4_294 : Cond.constantDouble RX4 294 (4841369599423283200) ∈ WS := gws 343 (by decide +kernel) (by decide +kernel)
theorem kkX5_180 : Cond.constantLong RX5 180 (3499) ∈ WS := gws 1050 (by decide +kernel) (by decide +kernel)
theorem kkX5_182 : Cond.constantLong RX5 182 (31) ∈ WS := gws 1051 (by decide +kernel) (by decide +kernel)
theorem kkJxe99ae_137 : Cond.constantLong RJxe99ae 137 (9221120237041090560) ∈ WS := gws 1061 (by decide +kernel) (by decide +kernel)
theorem kasn : Cond.static yX4_asNumber ∈ WS ∧ Cond.initialized yX4_asNumber.cls ∈ WS ∧ Cond.code yX4_asNumber cX4_asNumber 1 (some .int) ∈ WS ∧ yX4_asNumber.cls ≠ "java/lang/invoke/MethodHandle" ∧ yX4_asNumber.cls ≠ "java/lang/invoke/VarHandle" ∧ (parseMethodDescriptor yX4_asNumber.desc).map (fun d => d.parameters.length) = some 1 := ⟨gws 245 (by decide +kernel) (by decide +kernel), kiRX4, kcX4_asNumber, by decide +kernel, by decide +kernel, by decide +kernel⟩
