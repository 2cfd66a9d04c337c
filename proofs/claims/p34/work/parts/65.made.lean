theorem hm_X4_init_1 : (.methodLink RX4 3 objectInit : Cond) ∈ wsX4_init := List.mem_of_getElem? (i := 1) rfl
theorem hm_X4_init_2 : (.instanceMethod objectInit : Cond) ∈ wsX4_init := List.mem_of_getElem? (i := 2) rfl
theorem hm_X4_init_3 : (.code objectInit ⟨#[0xb1]⟩ 1 none : Cond) ∈ wsX4_init := List.mem_of_getElem? (i := 3) rfl
theorem hm_X4_init_4 : (.arrayClass .int : Cond) ∈ wsX4_init := List.mem_of_getElem? (i := 4) rfl
theorem hm_X4_init_5 : (.fieldLink RX4 9 "HolelessHouse$Graph" "near" "[I" : Cond) ∈ wsX4_init := List.mem_of_getElem? (i := 5) rfl
theorem hm_X4_init_6 : (.fieldLink RX4 15 "HolelessHouse$Graph" "size" "I" : Cond) ∈ wsX4_init := List.mem_of_getElem? (i := 6) rfl
theorem hm_X4_init_7 : (.fieldLink RX4 19 "HolelessHouse$Graph" "version" "I" : Cond) ∈ wsX4_init := List.mem_of_getElem? (i := 7) rfl
theorem hm_X10_init_1 : (.methodLink RX10 3 objectInit : Cond) ∈ wsX10_init := List.mem_of_getElem? (i := 1) rfl
theorem hm_X10_init_2 : (.instanceMethod objectInit : Cond) ∈ wsX10_init := List.mem_of_getElem? (i := 2) rfl
theorem hm_X10_init_3 : (.code objectInit ⟨#[0xb1]⟩ 1 none : Cond) ∈ wsX10_init := List.mem_of_getElem? (i := 3) rfl
theorem hm_X10_init_4 : (.arrayClass .int : Cond) ∈ wsX10_init := List.mem_of_getElem? (i := 4) rfl
theorem hm_X10_init_5 : (.fieldLink RX10 9 "HolelessHouse$Table" "rows" "[I" : Cond) ∈ wsX10_init := List.mem_of_getElem? (i := 5) rfl
theorem hm_X10_init_6 : (.fieldLink RX10 15 "HolelessHouse$Table" "width" "I" : Cond) ∈ wsX10_init := List.mem_of_getElem? (i := 6) rfl
theorem hm_X10_init_7 : (.fieldLink RX10 19 "HolelessHouse$Table" "version" "I" : Cond) ∈ wsX10_init := List.mem_of_getElem? (i := 7) rfl
theorem hm_X3_init_1 : (.methodLink RX3 3 objectInit : Cond) ∈ wsX3_init := List.mem_of_getElem? (i := 1) rfl
theorem hm_X3_init_2 : (.instanceMethod objectInit : Cond) ∈ wsX3_init := List.mem_of_getElem? (i := 2) rfl
theorem hm_X3_init_3 : (.code objectInit ⟨#[0xb1]⟩ 1 none : Cond) ∈ wsX3_init := List.mem_of_getElem? (i := 3) rfl
theorem hm_X3_init_4 : (.classLink RX3 9 "[[I" : Cond) ∈ wsX3_init := List.mem_of_getElem? (i := 4) rfl
theorem hm_X3_init_5 : (.arrayClass .int : Cond) ∈ wsX3_init := List.mem_of_getElem? (i := 5) rfl
theorem hm_X3_init_6 : (.fieldLink RX3 11 "HolelessHouse$Going" "near" "[[I" : Cond) ∈ wsX3_init := List.mem_of_getElem? (i := 6) rfl
theorem hm_X3_init_7 : (.fieldLink RX3 16 "HolelessHouse$Going" "size" "I" : Cond) ∈ wsX3_init := List.mem_of_getElem? (i := 7) rfl
theorem hm_X5_init_1 : (.methodLink RX5 3 objectInit : Cond) ∈ wsX5_init := List.mem_of_getElem? (i := 1) rfl
theorem hm_X5_init_2 : (.instanceMethod objectInit : Cond) ∈ wsX5_init := List.mem_of_getElem? (i := 2) rfl
theorem hm_X5_init_3 : (.code objectInit ⟨#[0xb1]⟩ 1 none : Cond) ∈ wsX5_init := List.mem_of_getElem? (i := 3) rfl
theorem hm_X5_init_4 : (.classLink RX5 9 RX3 : Cond) ∈ wsX5_init := List.mem_of_getElem? (i := 4) rfl
theorem hm_X5_init_5 : (.instantiable RX3 2 : Cond) ∈ wsX5_init := List.mem_of_getElem? (i := 5) rfl
theorem hm_X5_init_6 : (.initialized RX3 : Cond) ∈ wsX5_init := List.mem_of_getElem? (i := 6) rfl
theorem hm_X5_init_15 : (.instanceMethod yX3_init : Cond) ∈ wsX5_init := List.mem_of_getElem? (i := 15) rfl
theorem hm_X5_init_7 : (.fieldLink RX5 12 "HolelessHouse$LeastSearch" "going" "LHolelessHouse$Going;" : Cond) ∈ wsX5_init := List.mem_of_getElem? (i := 7) rfl
theorem hm_X5_init_8 : (.arrayClass .int : Cond) ∈ wsX5_init := List.mem_of_getElem? (i := 8) rfl
theorem hm_X5_init_9 : (.fieldLink RX5 18 "HolelessHouse$LeastSearch" "notes" "[I" : Cond) ∈ wsX5_init := List.mem_of_getElem? (i := 9) rfl
theorem hm_X5_init_10 : (.classLink RX5 22 "[[I" : Cond) ∈ wsX5_init := List.mem_of_getElem? (i := 10) rfl
theorem hm_X5_init_11 : (.fieldLink RX5 24 "HolelessHouse$LeastSearch" "prices" "[[I" : Cond) ∈ wsX5_init := List.mem_of_getElem? (i := 11) rfl
theorem hm_X5_init_12 : (.fieldLink RX5 27 "HolelessHouse$LeastSearch" "rule" "I" : Cond) ∈ wsX5_init := List.mem_of_getElem? (i := 12) rfl
theorem hm_X5_init_13 : (.fieldLink RX5 31 "HolelessHouse$LeastSearch" "all" "I" : Cond) ∈ wsX5_init := List.mem_of_getElem? (i := 13) rfl
theorem hm_X5_init_14 : (.fieldLink RX5 34 "HolelessHouse$LeastSearch" "size" "I" : Cond) ∈ wsX5_init := List.mem_of_getElem? (i := 14) rfl
theorem hm_X6_init_1 : (.methodLink RX6 3 objectInit : Cond) ∈ wsX6_init := List.mem_of_getElem? (i := 1) rfl
theorem hm_X6_init_2 : (.instanceMethod objectInit : Cond) ∈ wsX6_init := List.mem_of_getElem? (i := 2) rfl
theorem hm_X6_init_3 : (.code objectInit ⟨#[0xb1]⟩ 1 none : Cond) ∈ wsX6_init := List.mem_of_getElem? (i := 3) rfl
theorem hm_X6_init_4 : (.classLink RX6 9 RX3 : Cond) ∈ wsX6_init := List.mem_of_getElem? (i := 4) rfl
theorem hm_X6_init_5 : (.instantiable RX3 2 : Cond) ∈ wsX6_init := List.mem_of_getElem? (i := 5) rfl
theorem hm_X6_init_6 : (.initialized RX3 : Cond) ∈ wsX6_init := List.mem_of_getElem? (i := 6) rfl
theorem hm_X6_init_20 : (.instanceMethod yX3_init : Cond) ∈ wsX6_init := List.mem_of_getElem? (i := 20) rfl
theorem hm_X6_init_7 : (.fieldLink RX6 12 "HolelessHouse$Ordering" "going" "LHolelessHouse$Going;" : Cond) ∈ wsX6_init := List.mem_of_getElem? (i := 7) rfl
theorem hm_X6_init_8 : (.classLink RX6 18 RX5 : Cond) ∈ wsX6_init := List.mem_of_getElem? (i := 8) rfl
theorem hm_X6_init_9 : (.instantiable RX5 6 : Cond) ∈ wsX6_init := List.mem_of_getElem? (i := 9) rfl
theorem hm_X6_init_10 : (.initialized RX5 : Cond) ∈ wsX6_init := List.mem_of_getElem? (i := 10) rfl
theorem hm_X6_init_26 : (.instanceMethod yX5_init : Cond) ∈ wsX6_init := List.mem_of_getElem? (i := 26) rfl
theorem hm_X6_init_11 : (.fieldLink RX6 21 "HolelessHouse$Ordering" "search" "LHolelessHouse$LeastSearch;" : Cond) ∈ wsX6_init := List.mem_of_getElem? (i := 11) rfl
theorem hm_X6_init_12 : (.arrayClass .int : Cond) ∈ wsX6_init := List.mem_of_getElem? (i := 12) rfl
theorem hm_X6_init_13 : (.fieldLink RX6 25 "HolelessHouse$Ordering" "places" "[I" : Cond) ∈ wsX6_init := List.mem_of_getElem? (i := 13) rfl
theorem hm_X6_init_14 : (.fieldLink RX6 29 "HolelessHouse$Ordering" "drafts" "[I" : Cond) ∈ wsX6_init := List.mem_of_getElem? (i := 14) rfl
theorem hm_X6_init_15 : (.fieldLink RX6 32 "HolelessHouse$Ordering" "draftSize" "I" : Cond) ∈ wsX6_init := List.mem_of_getElem? (i := 15) rfl
theorem hm_X6_init_16 : (.fieldLink RX6 36 "HolelessHouse$Ordering" "size" "I" : Cond) ∈ wsX6_init := List.mem_of_getElem? (i := 16) rfl
theorem hm_X6_init_17 : (.fieldLink RX6 39 "HolelessHouse$Ordering" "there" "Z" : Cond) ∈ wsX6_init := List.mem_of_getElem? (i := 17) rfl
theorem hm_X6_init_18 : (.fieldLink RX6 43 "HolelessHouse$Ordering" "filled" "I" : Cond) ∈ wsX6_init := List.mem_of_getElem? (i := 18) rfl
theorem hm_X6_init_19 : (.fieldLink RX6 46 "HolelessHouse$Ordering" "width" "I" : Cond) ∈ wsX6_init := List.mem_of_getElem? (i := 19) rfl
theorem hm_X9_init_1 : (.methodLink RX9 3 objectInit : Cond) ∈ wsX9_init := List.mem_of_getElem? (i := 1) rfl
theorem hm_X9_init_2 : (.instanceMethod objectInit : Cond) ∈ wsX9_init := List.mem_of_getElem? (i := 2) rfl
theorem hm_X9_init_3 : (.code objectInit ⟨#[0xb1]⟩ 1 none : Cond) ∈ wsX9_init := List.mem_of_getElem? (i := 3) rfl
theorem hm_X9_init_4 : (.classLink RX9 9 RX3 : Cond) ∈ wsX9_init := List.mem_of_getElem? (i := 4) rfl
theorem hm_X9_init_5 : (.instantiable RX3 2 : Cond) ∈ wsX9_init := List.mem_of_getElem? (i := 5) rfl
theorem hm_X9_init_6 : (.initialized RX3 : Cond) ∈ wsX9_init := List.mem_of_getElem? (i := 6) rfl
theorem hm_X9_init_12 : (.instanceMethod yX3_init : Cond) ∈ wsX9_init := List.mem_of_getElem? (i := 12) rfl
theorem hm_X9_init_7 : (.fieldLink RX9 12 "HolelessHouse$Ring" "going" "LHolelessHouse$Going;" : Cond) ∈ wsX9_init := List.mem_of_getElem? (i := 7) rfl
theorem hm_X9_init_8 : (.arrayClass .int : Cond) ∈ wsX9_init := List.mem_of_getElem? (i := 8) rfl
theorem hm_X9_init_9 : (.fieldLink RX9 18 "HolelessHouse$Ring" "path" "[I" : Cond) ∈ wsX9_init := List.mem_of_getElem? (i := 9) rfl
theorem hm_X9_init_10 : (.fieldLink RX9 22 "HolelessHouse$Ring" "length" "I" : Cond) ∈ wsX9_init := List.mem_of_getElem? (i := 10) rfl
theorem hm_X9_init_11 : (.fieldLink RX9 26 "HolelessHouse$Ring" "madeFor" "I" : Cond) ∈ wsX9_init := List.mem_of_getElem? (i := 11) rfl
theorem hm_X1_init_1 : (.methodLink RX1 3 objectInit : Cond) ∈ wsX1_init := List.mem_of_getElem? (i := 1) rfl
theorem hm_X1_init_2 : (.instanceMethod objectInit : Cond) ∈ wsX1_init := List.mem_of_getElem? (i := 2) rfl
theorem hm_X1_init_3 : (.code objectInit ⟨#[0xb1]⟩ 1 none : Cond) ∈ wsX1_init := List.mem_of_getElem? (i := 3) rfl
theorem hm_X1_init_4 : (.arrayClass .int : Cond) ∈ wsX1_init := List.mem_of_getElem? (i := 4) rfl
theorem hm_X1_init_5 : (.fieldLink RX1 9 "HolelessHouse$Cliques" "near" "[I" : Cond) ∈ wsX1_init := List.mem_of_getElem? (i := 5) rfl
theorem hm_X1_init_6 : (.fieldLink RX1 15 "HolelessHouse$Cliques" "sets" "[I" : Cond) ∈ wsX1_init := List.mem_of_getElem? (i := 6) rfl
theorem hm_X1_init_7 : (.fieldLink RX1 18 "HolelessHouse$Cliques" "parents" "[I" : Cond) ∈ wsX1_init := List.mem_of_getElem? (i := 7) rfl
theorem hm_X1_init_8 : (.fieldLink RX1 21 "HolelessHouse$Cliques" "shared" "[I" : Cond) ∈ wsX1_init := List.mem_of_getElem? (i := 8) rfl
theorem hm_X1_init_9 : (.fieldLink RX1 24 "HolelessHouse$Cliques" "size" "I" : Cond) ∈ wsX1_init := List.mem_of_getElem? (i := 9) rfl
theorem hm_X1_init_10 : (.fieldLink RX1 28 "HolelessHouse$Cliques" "madeFor" "I" : Cond) ∈ wsX1_init := List.mem_of_getElem? (i := 10) rfl
theorem hm_X1_init_11 : (.fieldLink RX1 31 "HolelessHouse$Cliques" "treeMadeFor" "I" : Cond) ∈ wsX1_init := List.mem_of_getElem? (i := 11) rfl
theorem hm_X1_init_12 : (.fieldLink RX1 34 "HolelessHouse$Cliques" "turned" "Z" : Cond) ∈ wsX1_init := List.mem_of_getElem? (i := 12) rfl
theorem hm_X7_init_1 : (.methodLink RX7 3 objectInit : Cond) ∈ wsX7_init := List.mem_of_getElem? (i := 1) rfl
theorem hm_X7_init_2 : (.instanceMethod objectInit : Cond) ∈ wsX7_init := List.mem_of_getElem? (i := 2) rfl
theorem hm_X7_init_3 : (.code objectInit ⟨#[0xb1]⟩ 1 none : Cond) ∈ wsX7_init := List.mem_of_getElem? (i := 3) rfl
theorem hm_X7_init_4 : (.arrayClass .int : Cond) ∈ wsX7_init := List.mem_of_getElem? (i := 4) rfl
theorem hm_X7_init_5 : (.fieldLink RX7 9 "HolelessHouse$Paint" "hues" "[I" : Cond) ∈ wsX7_init := List.mem_of_getElem? (i := 5) rfl
theorem hm_X7_init_6 : (.fieldLink RX7 15 "HolelessHouse$Paint" "worn" "[I" : Cond) ∈ wsX7_init := List.mem_of_getElem? (i := 6) rfl
theorem hm_X7_init_7 : (.fieldLink RX7 18 "HolelessHouse$Paint" "most" "I" : Cond) ∈ wsX7_init := List.mem_of_getElem? (i := 7) rfl
theorem hm_X7_init_8 : (.fieldLink RX7 22 "HolelessHouse$Paint" "madeFor" "I" : Cond) ∈ wsX7_init := List.mem_of_getElem? (i := 8) rfl
theorem hm_X8_init_1 : (.methodLink RX8 3 objectInit : Cond) ∈ wsX8_init := List.mem_of_getElem? (i := 1) rfl
theorem hm_X8_init_2 : (.instanceMethod objectInit : Cond) ∈ wsX8_init := List.mem_of_getElem? (i := 2) rfl
theorem hm_X8_init_3 : (.code objectInit ⟨#[0xb1]⟩ 1 none : Cond) ∈ wsX8_init := List.mem_of_getElem? (i := 3) rfl
theorem hm_X8_init_4 : (.arrayClass .int : Cond) ∈ wsX8_init := List.mem_of_getElem? (i := 4) rfl
theorem hm_X8_init_5 : (.fieldLink RX8 9 "HolelessHouse$Parts" "sets" "[I" : Cond) ∈ wsX8_init := List.mem_of_getElem? (i := 5) rfl
theorem hm_X8_init_6 : (.fieldLink RX8 15 "HolelessHouse$Parts" "size" "I" : Cond) ∈ wsX8_init := List.mem_of_getElem? (i := 6) rfl
theorem hm_X8_init_7 : (.fieldLink RX8 19 "HolelessHouse$Parts" "madeFor" "I" : Cond) ∈ wsX8_init := List.mem_of_getElem? (i := 7) rfl
theorem hm_X8_init_8 : (.fieldLink RX8 22 "HolelessHouse$Parts" "one" "I" : Cond) ∈ wsX8_init := List.mem_of_getElem? (i := 8) rfl
theorem hm_X8_init_9 : (.fieldLink RX8 25 "HolelessHouse$Parts" "other" "I" : Cond) ∈ wsX8_init := List.mem_of_getElem? (i := 9) rfl
theorem hm_X2_init_1 : (.methodLink RX2 3 objectInit : Cond) ∈ wsX2_init := List.mem_of_getElem? (i := 1) rfl
theorem hm_X2_init_2 : (.instanceMethod objectInit : Cond) ∈ wsX2_init := List.mem_of_getElem? (i := 2) rfl
theorem hm_X2_init_3 : (.code objectInit ⟨#[0xb1]⟩ 1 none : Cond) ∈ wsX2_init := List.mem_of_getElem? (i := 3) rfl
theorem hm_X2_init_4 : (.classLink RX2 9 "[[I" : Cond) ∈ wsX2_init := List.mem_of_getElem? (i := 4) rfl
theorem hm_X2_init_5 : (.arrayClass .int : Cond) ∈ wsX2_init := List.mem_of_getElem? (i := 5) rfl
theorem hm_X2_init_6 : (.fieldLink RX2 11 "HolelessHouse$FarThree" "clear" "[[I" : Cond) ∈ wsX2_init := List.mem_of_getElem? (i := 6) rfl
theorem hm_X2_init_7 : (.fieldLink RX2 16 "HolelessHouse$FarThree" "three" "[I" : Cond) ∈ wsX2_init := List.mem_of_getElem? (i := 7) rfl
theorem hm_X2_init_8 : (.fieldLink RX2 20 "HolelessHouse$FarThree" "there" "Z" : Cond) ∈ wsX2_init := List.mem_of_getElem? (i := 8) rfl
theorem hm_X2_init_9 : (.fieldLink RX2 24 "HolelessHouse$FarThree" "madeFor" "I" : Cond) ∈ wsX2_init := List.mem_of_getElem? (i := 9) rfl
theorem hm_X0_init_1 : (.methodLink RX0 3 objectInit : Cond) ∈ wsX0_init := List.mem_of_getElem? (i := 1) rfl
theorem hm_X0_init_2 : (.instanceMethod objectInit : Cond) ∈ wsX0_init := List.mem_of_getElem? (i := 2) rfl
theorem hm_X0_init_3 : (.code objectInit ⟨#[0xb1]⟩ 1 none : Cond) ∈ wsX0_init := List.mem_of_getElem? (i := 3) rfl
theorem hm_X0_init_4 : (.methodLink RX0 9 Lib.Math.max.name : Cond) ∈ wsX0_init := List.mem_of_getElem? (i := 4) rfl
theorem hm_X0_init_5 : (.static Lib.Math.max.name : Cond) ∈ wsX0_init := List.mem_of_getElem? (i := 5) rfl
theorem hm_X0_init_6 : (.initialized "java/lang/Math" : Cond) ∈ wsX0_init := List.mem_of_getElem? (i := 6) rfl
theorem hm_X0_init_7 : (.code Lib.Math.max.name Lib.Math.max.code 2 (some .int) : Cond) ∈ wsX0_init := List.mem_of_getElem? (i := 7) rfl
theorem hm_X0_init_8 : (.arrayClass .int : Cond) ∈ wsX0_init := List.mem_of_getElem? (i := 8) rfl
theorem hm_X0_init_9 : (.fieldLink RX0 15 "HolelessHouse$Benches" "rows" "[I" : Cond) ∈ wsX0_init := List.mem_of_getElem? (i := 9) rfl
theorem hm_X0_init_10 : (.fieldLink RX0 21 "HolelessHouse$Benches" "rowCount" "I" : Cond) ∈ wsX0_init := List.mem_of_getElem? (i := 10) rfl
theorem hm_X0_init_11 : (.fieldLink RX0 25 "HolelessHouse$Benches" "width" "I" : Cond) ∈ wsX0_init := List.mem_of_getElem? (i := 11) rfl
theorem hm_X0_init_12 : (.fieldLink RX0 28 "HolelessHouse$Benches" "ways" "I" : Cond) ∈ wsX0_init := List.mem_of_getElem? (i := 12) rfl
theorem hm_X0_init_13 : (.fieldLink RX0 31 "HolelessHouse$Benches" "seated" "Z" : Cond) ∈ wsX0_init := List.mem_of_getElem? (i := 13) rfl
theorem hm_X0_init_14 : (.fieldLink RX0 35 "HolelessHouse$Benches" "madeFor" "I" : Cond) ∈ wsX0_init := List.mem_of_getElem? (i := 14) rfl
theorem hm_X0_init_15 : (.fieldLink RX0 38 "HolelessHouse$Benches" "notes" "[I" : Cond) ∈ wsX0_init := List.mem_of_getElem? (i := 15) rfl
theorem hm_X0_init_16 : (.fieldLink RX0 41 "HolelessHouse$Benches" "places" "[I" : Cond) ∈ wsX0_init := List.mem_of_getElem? (i := 16) rfl
theorem iw_X4_init_X4 : ∀ w ∈ wsX40, w ∈ wsX4_init := fun _ h => List.mem_cons.mpr (Or.inr (List.mem_append.mpr (Or.inr h)))
set_option maxHeartbeats 4000000 in
set_option maxRecDepth 100000 in
theorem kX4_init_1 (l : Launch) (dC : Nat → ClassId) (dI : Nat → Nat → Nat) (cI c2 cZ : ClassId) (o1 : Nat) (sz : Nat) : Met l yX4_init wsX4_init ({ frames := 1, cells := 1, slots := 12, locals := 12 }) (va_Pc [.ref o1] (wPre (dC, dI) [(cI, .int), (c2, .array .int), (cZ, .boolean)] ([(o1, .inr (4, [.null, .int 0, .int 0]))]) sz)) (va_Qv (fun (u : Nat × (Nat → Int32)) => Bd 12 0 4095 u.2) (fun u t => wPost (dC, dI) [(cI, .int), (c2, .array .int), (cZ, .boolean)] (va_A ([(o1, .inr (4, [.null, .int 0, .int 0]))]) sz) ([(o1, .inr (4, [.ref u.1, .int 0, .int 0])), (u.1, .inl (cI, 12, .inl u.2))]) t) (va_A ([(o1, .inr (4, [.null, .int 0, .int 0]))]) sz)) 1 12 (va_A ([(o1, .inr (4, [.null, .int 0, .int 0]))]) sz) := by
  refine Met.ofW (cc := cX4_init) (maxL := 1) (ret := none) (by decide) rfl ?_
  intro p e s m args below meth c s₁ B hml hv
  obtain ⟨rfl, hsz, hP, hK, hD0, hN⟩ := hv
  have hx := B.exec
  have hb := B.bytes
  have hr := B.returns
  have hts := atoms_spec (ws := wsX4_init) B.pre
  have hown : s.vm.findClass RX4 = some m.cls := findClass_of_methodNamed B.named
  have hlocks := B.notSynchronized
  have hin : meth.name = "<init>" := (name_of_methodNamed B.named B.method).1
  subst hsz
  have hD := hD0.self (sz := s.heap.size)
  generalize hAe : va_A ([(o1, .inr (4, [.null, .int 0, .int 0]))]) s.heap.size = A at hD ⊢
  have hA : ∀ q : Nat, s.heap.size ≤ q → A q := fun q h => by rw [← hAe]; exact Or.inr h
  have hS : va_S A s.heap s.heap [] := va_S.rf
  have hP : va_P (dC, dI) vwCl ([(o1, .inr (4, [.null, .int 0, .int 0]))]) s.heap := hP
  have hl := lv_entry ([.ref o1]) (n := 1) (Nat.le_of_ble_eq_true rfl)
  rw [lg_entry_eq]
  generalize (lg_sl ([.ref o1]) ++ List.replicate (1 - (lg_sl ([.ref o1])).length) Slot.unset).toArray = ls at hl ⊢
  have hl : lv_has ls 1 [(0, .ref o1)] := hl
  refine gen_Q (fun Q hQ => ?_)
  refine lv_aload_n hx hb dX4_init_0 rfl (lv_at hl 0 rfl) ?_
  refine W.objInit hx hb hown (hts (.methodLink RX4 3 objectInit) hm_X4_init_1) (hts (.instanceMethod objectInit) hm_X4_init_2) (hts (.code objectInit ⟨#[0xb1]⟩ 1 none) hm_X4_init_3) rfl (by rw [hml]; exact hl.1) rfl dX4_init_1 (Nat.le_of_ble_eq_true rfl) (Nat.le_of_ble_eq_true rfl) ?_
  refine W.eq (g2 := F0 m 4 ls []) rfl ?_
  refine lv_aload_n hx hb dX4_init_4 rfl (lv_at hl 0 rfl) ?_
  refine lv_bipush (v := 12) hx hb dX4_init_5 (by decide) ?_
  refine va_newa (atype := .int) (ty := .int) (N' := 12) (a0 := (12, .inl (fun _ => 0))) hx hb (hts (.arrayClass .int) hm_X4_init_4) rfl hK hP hD hS hA (fun _ => rfl) (by decide +kernel) (by decide +kernel) (by decide +kernel) (Nat.le_of_ble_eq_true rfl) (Nat.le_of_ble_eq_true rfl) dX4_init_7 (fun q1 cA H hK1 hP hD hS => ?_)
  refine W.widen (k := 1) (n := 12) (by decide) (by decide) ?_
  have e9 : cI = cA := K3_int hK1
  subst e9
  obtain ⟨f2, f2_e⟩ : ∃ g : Nat → Int32, g = fun _ => 0 := ⟨_, rfl⟩
  rw [← f2_e] at hP hD
  have f2_b : Bd 12 0 4095 f2 := by rw [f2_e]; exact bd_c ik_0 (by decide)
  have hP : va_P (dC, dI) vwCl ([(o1, .inr (4, [.null, .int 0, .int 0])), (q1, .inl (cI, 12, .inl f2))]) H := hP
  have hD : va_D A ([(o1, .inr (4, [.null, .int 0, .int 0])), (q1, .inl (cI, 12, .inl f2))]) := hD
  refine va_putF (D := (dC, dI)) (ci := 4) (v := .ref q1) (ty := .array .int) (C := RX4) (T := TX4) (N := 3) hx hb hts iw_X4_init_X4 tyX4 tyX4_ok nmX4 hown hK hP hD hS 0 rfl rfl 0 (by decide) (hts (.fieldLink RX4 9 "HolelessHouse$Graph" "near" "[I") hm_X4_init_5) (fun _ h9 => h9) rfl hin rfl (by decide +kernel) rfl rfl (Nat.le_of_ble_eq_true rfl) dX4_init_9 (fun H locs hP hD hS => ?_)
  have hP : va_P (dC, dI) vwCl ([(o1, .inr (4, [.ref q1, .int 0, .int 0])), (q1, .inl (cI, 12, .inl f2))]) H := hP
  have hD : va_D A ([(o1, .inr (4, [.ref q1, .int 0, .int 0])), (q1, .inl (cI, 12, .inl f2))]) := hD
  refine lv_aload_n hx hb dX4_init_12 rfl (lv_at hl 0 rfl) ?_
  refine lv_iconst (v := 0) hx hb dX4_init_13 (by decide) ?_
  refine va_put (D := (dC, dI)) (ci := 4) (v := .int 0) (ty := .int) (C := RX4) (T := TX4) (N := 3) hx hb hts iw_X4_init_X4 tyX4 tyX4_ok nmX4 hown hK hP hD hS 0 rfl rfl 1 (by decide) (hts (.fieldLink RX4 15 "HolelessHouse$Graph" "size" "I") hm_X4_init_6) (fun _ h9 => h9) rfl (by decide +kernel) rfl rfl (Nat.le_of_ble_eq_true rfl) dX4_init_14 (fun H locs hP hD hS => ?_)
  have hP : va_P (dC, dI) vwCl ([(o1, .inr (4, [.ref q1, .int 0, .int 0])), (q1, .inl (cI, 12, .inl f2))]) H := hP
  have hD : va_D A ([(o1, .inr (4, [.ref q1, .int 0, .int 0])), (q1, .inl (cI, 12, .inl f2))]) := hD
  refine lv_aload_n hx hb dX4_init_17 rfl (lv_at hl 0 rfl) ?_
  refine lv_iconst (v := 0) hx hb dX4_init_18 (by decide) ?_
  refine va_put (D := (dC, dI)) (ci := 4) (v := .int 0) (ty := .int) (C := RX4) (T := TX4) (N := 3) hx hb hts iw_X4_init_X4 tyX4 tyX4_ok nmX4 hown hK hP hD hS 0 rfl rfl 2 (by decide) (hts (.fieldLink RX4 19 "HolelessHouse$Graph" "version" "I") hm_X4_init_7) (fun _ h9 => h9) rfl (by decide +kernel) rfl rfl (Nat.le_of_ble_eq_true rfl) dX4_init_19 (fun H locs hP hD hS => ?_)
  have hP : va_P (dC, dI) vwCl ([(o1, .inr (4, [.ref q1, .int 0, .int 0])), (q1, .inl (cI, 12, .inl f2))]) H := hP
  have hD : va_D A ([(o1, .inr (4, [.ref q1, .int 0, .int 0])), (q1, .inl (cI, 12, .inl f2))]) := hD
  rw [hQ]
  exact W.vret hx hb hr (fun t ht hW => ⟨⟨(q1, f2), rfl, f2_b, by rw [ht]; exact hP, va_K.moved hW.alike hK, hD⟩, hS.F ht⟩) hS.2.2 dX4_init_22
theorem iw_X10_init_X10 : ∀ w ∈ wsX100, w ∈ wsX10_init := fun _ h => List.mem_cons.mpr (Or.inr (List.mem_append.mpr (Or.inr h)))
set_option maxHeartbeats 4000000 in
set_option maxRecDepth 100000 in
theorem kX10_init_1 (l : Launch) (dC : Nat → ClassId) (dI : Nat → Nat → Nat) (cI c2 cZ : ClassId) (o1 : Nat) (sz : Nat) : Met l yX10_init wsX10_init ({ frames := 1, cells := 1, slots := 12, locals := 23 }) (va_Pc [.ref o1] (wPre (dC, dI) [(cI, .int), (c2, .array .int), (cZ, .boolean)] ([(o1, .inr (10, [.null, .int 0, .int 0]))]) sz)) (va_Qv (fun (u : Nat × (Nat → Int32)) => Bd 12 (-1) 255 u.2) (fun u t => wPost (dC, dI) [(cI, .int), (c2, .array .int), (cZ, .boolean)] (va_A ([(o1, .inr (10, [.null, .int 0, .int 0]))]) sz) ([(o1, .inr (10, [.ref u.1, .int 0, .int 0])), (u.1, .inl (cI, 12, .inl u.2))]) t) (va_A ([(o1, .inr (10, [.null, .int 0, .int 0]))]) sz)) 1 12 (va_A ([(o1, .inr (10, [.null, .int 0, .int 0]))]) sz) := by
  refine Met.ofW (cc := cX10_init) (maxL := 1) (ret := none) (by decide) rfl ?_
  intro p e s m args below meth c s₁ B hml hv
  obtain ⟨rfl, hsz, hP, hK, hD0, hN⟩ := hv
  have hx := B.exec
  have hb := B.bytes
  have hr := B.returns
  have hts := atoms_spec (ws := wsX10_init) B.pre
  have hown : s.vm.findClass RX10 = some m.cls := findClass_of_methodNamed B.named
  have hlocks := B.notSynchronized
  have hin : meth.name = "<init>" := (name_of_methodNamed B.named B.method).1
  subst hsz
  have hD := hD0.self (sz := s.heap.size)
  generalize hAe : va_A ([(o1, .inr (10, [.null, .int 0, .int 0]))]) s.heap.size = A at hD ⊢
  have hA : ∀ q : Nat, s.heap.size ≤ q → A q := fun q h => by rw [← hAe]; exact Or.inr h
  have hS : va_S A s.heap s.heap [] := va_S.rf
  have hP : va_P (dC, dI) vwCl ([(o1, .inr (10, [.null, .int 0, .int 0]))]) s.heap := hP
  have hl := lv_entry ([.ref o1]) (n := 1) (Nat.le_of_ble_eq_true rfl)
  rw [lg_entry_eq]
  generalize (lg_sl ([.ref o1]) ++ List.replicate (1 - (lg_sl ([.ref o1])).length) Slot.unset).toArray = ls at hl ⊢
  have hl : lv_has ls 1 [(0, .ref o1)] := hl
  refine gen_Q (fun Q hQ => ?_)
  refine lv_aload_n hx hb dX10_init_0 rfl (lv_at hl 0 rfl) ?_
  refine W.objInit hx hb hown (hts (.methodLink RX10 3 objectInit) hm_X10_init_1) (hts (.instanceMethod objectInit) hm_X10_init_2) (hts (.code objectInit ⟨#[0xb1]⟩ 1 none) hm_X10_init_3) rfl (by rw [hml]; exact hl.1) rfl dX10_init_1 (Nat.le_of_ble_eq_true rfl) (Nat.le_of_ble_eq_true rfl) ?_
  refine W.eq (g2 := F0 m 4 ls []) rfl ?_
  refine lv_aload_n hx hb dX10_init_4 rfl (lv_at hl 0 rfl) ?_
  refine lv_bipush (v := 12) hx hb dX10_init_5 (by decide) ?_
  refine va_newa (atype := .int) (ty := .int) (N' := 12) (a0 := (12, .inl (fun _ => 0))) hx hb (hts (.arrayClass .int) hm_X10_init_4) rfl hK hP hD hS hA (fun _ => rfl) (by decide +kernel) (by decide +kernel) (by decide +kernel) (Nat.le_of_ble_eq_true rfl) (Nat.le_of_ble_eq_true rfl) dX10_init_7 (fun q1 cA H hK1 hP hD hS => ?_)
  refine W.widen (k := 1) (n := 12) (by decide) (by decide) ?_
  have e9 : cI = cA := K3_int hK1
  subst e9
  obtain ⟨f2, f2_e⟩ : ∃ g : Nat → Int32, g = fun _ => 0 := ⟨_, rfl⟩
  rw [← f2_e] at hP hD
  have f2_b : Bd 12 (-1) 255 f2 := by rw [f2_e]; exact bd_c ik_0 (by decide)
  have hP : va_P (dC, dI) vwCl ([(o1, .inr (10, [.null, .int 0, .int 0])), (q1, .inl (cI, 12, .inl f2))]) H := hP
  have hD : va_D A ([(o1, .inr (10, [.null, .int 0, .int 0])), (q1, .inl (cI, 12, .inl f2))]) := hD
  refine va_putF (D := (dC, dI)) (ci := 10) (v := .ref q1) (ty := .array .int) (C := RX10) (T := TX10) (N := 3) hx hb hts iw_X10_init_X10 tyX10 tyX10_ok nmX10 hown hK hP hD hS 0 rfl rfl 0 (by decide) (hts (.fieldLink RX10 9 "HolelessHouse$Table" "rows" "[I") hm_X10_init_5) (fun _ h9 => h9) rfl hin rfl (by decide +kernel) rfl rfl (Nat.le_of_ble_eq_true rfl) dX10_init_9 (fun H locs hP hD hS => ?_)
  have hP : va_P (dC, dI) vwCl ([(o1, .inr (10, [.ref q1, .int 0, .int 0])), (q1, .inl (cI, 12, .inl f2))]) H := hP
  have hD : va_D A ([(o1, .inr (10, [.ref q1, .int 0, .int 0])), (q1, .inl (cI, 12, .inl f2))]) := hD
  refine lv_aload_n hx hb dX10_init_12 rfl (lv_at hl 0 rfl) ?_
  refine lv_iconst (v := 0) hx hb dX10_init_13 (by decide) ?_
  refine va_put (D := (dC, dI)) (ci := 10) (v := .int 0) (ty := .int) (C := RX10) (T := TX10) (N := 3) hx hb hts iw_X10_init_X10 tyX10 tyX10_ok nmX10 hown hK hP hD hS 0 rfl rfl 1 (by decide) (hts (.fieldLink RX10 15 "HolelessHouse$Table" "width" "I") hm_X10_init_6) (fun _ h9 => h9) rfl (by decide +kernel) rfl rfl (Nat.le_of_ble_eq_true rfl) dX10_init_14 (fun H locs hP hD hS => ?_)
  have hP : va_P (dC, dI) vwCl ([(o1, .inr (10, [.ref q1, .int 0, .int 0])), (q1, .inl (cI, 12, .inl f2))]) H := hP
  have hD : va_D A ([(o1, .inr (10, [.ref q1, .int 0, .int 0])), (q1, .inl (cI, 12, .inl f2))]) := hD
  refine lv_aload_n hx hb dX10_init_17 rfl (lv_at hl 0 rfl) ?_
  refine lv_iconst (v := 0) hx hb dX10_init_18 (by decide) ?_
  refine va_put (D := (dC, dI)) (ci := 10) (v := .int 0) (ty := .int) (C := RX10) (T := TX10) (N := 3) hx hb hts iw_X10_init_X10 tyX10 tyX10_ok nmX10 hown hK hP hD hS 0 rfl rfl 2 (by decide) (hts (.fieldLink RX10 19 "HolelessHouse$Table" "version" "I") hm_X10_init_7) (fun _ h9 => h9) rfl (by decide +kernel) rfl rfl (Nat.le_of_ble_eq_true rfl) dX10_init_19 (fun H locs hP hD hS => ?_)
  have hP : va_P (dC, dI) vwCl ([(o1, .inr (10, [.ref q1, .int 0, .int 0])), (q1, .inl (cI, 12, .inl f2))]) H := hP
  have hD : va_D A ([(o1, .inr (10, [.ref q1, .int 0, .int 0])), (q1, .inl (cI, 12, .inl f2))]) := hD
  refine lv_aload_n hx hb dX10_init_22 rfl (lv_at hl 0 rfl) ?_
  refine va_get (D := (dC, dI)) (ci := 10) (v := .ref q1) (C := RX10) (T := TX10) (N := 3) hx hb hts iw_X10_init_X10 hown hK hP 0 rfl rfl 0 (by decide) (hts (.fieldLink RX10 9 "HolelessHouse$Table" "rows" "[I") hm_X10_init_5) (fun _ h9 => h9) rfl dX10_init_23 ?_
  refine lv_iconst (v := (-1)) hx hb dX10_init_26 (by decide) ?_
  refine kc_v (D := (dC, dI)) (S := (Nat → Int32)) (wc := [(q1, .inl (cI, 12, .inl f2))]) (wr := [(o1, .inr (10, [.ref q1, .int 0, .int 0]))]) (w1 := fun u => [(q1, .inl (cI, 12, .inl u))]) (wn := fun u => [(o1, .inr (10, [.ref q1, .int 0, .int 0])), (q1, .inl (cI, 12, .inl u))]) (fun hPc hDc => va_runS (As := [.ref q1, .int (-1)]) (rest := []) ⟨hx, hb, hml, hown, hts⟩ (kJ7_fill_53178_3 l dC dI cI c2 cZ q1 f2 (-1) H.size f2_b ikm_1) (va_cwS 2 hts gX10_init_J7_fill_53178 rfl rfl rfl (by decide +kernel) ⟨Nat.le_of_ble_eq_true rfl, Nat.le_of_ble_eq_true rfl⟩) (pre_S hPc hK hDc hN) rfl rfl hl.1 rfl (lv_room (Nat.le_of_ble_eq_true rfl)) dX10_init_27 ⟨Nat.le_of_ble_eq_true rfl, Nat.le_of_ble_eq_true rfl⟩) hP hD hS hA [1] [0] [0, 1] rfl rfl (by decide +kernel) (by decide +kernel) (by decide +kernel) (by decide +kernel) (fun _ => rfl) (fun f3 H locs hq hP hD hS => ?_)
  have f3_b := hq
  have hP : va_P (dC, dI) vwCl ([(o1, .inr (10, [.ref q1, .int 0, .int 0])), (q1, .inl (cI, 12, .inl f3))]) H := hP
  have hD : va_D A ([(o1, .inr (10, [.ref q1, .int 0, .int 0])), (q1, .inl (cI, 12, .inl f3))]) := hD
  rw [hQ]
  exact W.vret hx hb hr (fun t ht hW => ⟨⟨(q1, f3), rfl, f3_b, by rw [ht]; exact hP, va_K.moved hW.alike hK, hD⟩, hS.F ht⟩) hS.2.2 dX10_init_30
theorem iw_X3_init_X3 : ∀ w ∈ wsX30, w ∈ wsX3_init := fun _ h => List.mem_cons.mpr (Or.inr (List.mem_append.mpr (Or.inr h)))
set_option maxHeartbeats 4000000 in
set_option maxRecDepth 100000 in
theorem kX3_init_1 (l : Launch) (dC : Nat → ClassId) (dI : Nat → Nat → Nat) (cI c2 cZ : ClassId) (o1 : Nat) (sz : Nat) : Met l yX3_init wsX3_init ({ frames := 1, cells := 14, slots := 169, locals := 12 }) (va_Pc [.ref o1] (wPre (dC, dI) [(cI, .int), (c2, .array .int), (cZ, .boolean)] ([(o1, .inr (3, [.null, .int 0]))]) sz)) (va_Qv (fun (u : Nat × (Nat → Nat) × (Nat → Nat → Int32)) => Bg 13 12 0 4095 u.2.2) (fun u t => wPost (dC, dI) [(cI, .int), (c2, .array .int), (cZ, .boolean)] (va_A ([(o1, .inr (3, [.null, .int 0]))]) sz) (([(o1, .inr (3, [.ref u.1, .int 0])), (u.1, .inl (c2, 13, .inr (.inr (.inr (.inr (fun i => if i < 13 then some (u.2.1 i) else none))))))] : va_W) ++ (gr13 u.2.1 cI 12 u.2.2 ++ ([] : va_W))) t) (va_A ([(o1, .inr (3, [.null, .int 0]))]) sz)) 14 169 (va_A ([(o1, .inr (3, [.null, .int 0]))]) sz) := by
  refine Met.ofW (cc := cX3_init) (maxL := 1) (ret := none) (by decide) rfl ?_
  intro p e s m args below meth c s₁ B hml hv
  obtain ⟨rfl, hsz, hP, hK, hD0, hN⟩ := hv
  have hx := B.exec
  have hb := B.bytes
  have hr := B.returns
  have hts := atoms_spec (ws := wsX3_init) B.pre
  have hown : s.vm.findClass RX3 = some m.cls := findClass_of_methodNamed B.named
  have hlocks := B.notSynchronized
  have hin : meth.name = "<init>" := (name_of_methodNamed B.named B.method).1
  subst hsz
  have hD := hD0.self (sz := s.heap.size)
  generalize hAe : va_A ([(o1, .inr (3, [.null, .int 0]))]) s.heap.size = A at hD ⊢
  have hA : ∀ q : Nat, s.heap.size ≤ q → A q := fun q h => by rw [← hAe]; exact Or.inr h
  have hS : va_S A s.heap s.heap [] := va_S.rf
  have hP : va_P (dC, dI) vwCl ([(o1, .inr (3, [.null, .int 0]))]) s.heap := hP
  have hl := lv_entry ([.ref o1]) (n := 1) (Nat.le_of_ble_eq_true rfl)
  rw [lg_entry_eq]
  generalize (lg_sl ([.ref o1]) ++ List.replicate (1 - (lg_sl ([.ref o1])).length) Slot.unset).toArray = ls at hl ⊢
  have hl : lv_has ls 1 [(0, .ref o1)] := hl
  refine gen_Q (fun Q hQ => ?_)
  refine lv_aload_n hx hb dX3_init_0 rfl (lv_at hl 0 rfl) ?_
  refine W.objInit hx hb hown (hts (.methodLink RX3 3 objectInit) hm_X3_init_1) (hts (.instanceMethod objectInit) hm_X3_init_2) (hts (.code objectInit ⟨#[0xb1]⟩ 1 none) hm_X3_init_3) rfl (by rw [hml]; exact hl.1) rfl dX3_init_1 (Nat.le_of_ble_eq_true rfl) (Nat.le_of_ble_eq_true rfl) ?_
  refine W.eq (g2 := F0 m 4 ls []) rfl ?_
  refine lv_aload_n hx hb dX3_init_4 rfl (lv_at hl 0 rfl) ?_
  refine lv_bipush (v := 13) hx hb dX3_init_5 (by decide) ?_
  refine lv_bipush (v := 12) hx hb dX3_init_7 (by decide) ?_
  refine mnaG13 (cI := cI) (c2 := c2) (cZ := cZ) (K' := 12) hx hb hown (hts (.classLink RX3 9 "[[I") hm_X3_init_4) hN.2 (hts (.arrayClass .int) hm_X3_init_5) hK rfl hP hD hS hA (by decide +kernel) (by decide +kernel) (by decide +kernel) (by decide +kernel) (by decide) (by decide) (by decide) (Nat.le_of_ble_eq_true rfl) (Nat.le_of_ble_eq_true rfl) dX3_init_9 (fun q1 r2 G3 H G3_e hP hD hS => ?_)
  refine W.widen (k := 14) (n := 169) (by decide) (by decide) ?_
  have G3_b : Bg 13 12 0 4095 G3 := by rw [G3_e]; exact fun _ _ => bd_c ik_0 (by decide)
  have hP : va_P (dC, dI) vwCl (([(o1, .inr (3, [.null, .int 0])), (q1, .inl (c2, 13, .inr (.inr (.inr (.inr (fun i => if i < 13 then some (r2 i) else none))))))] : va_W) ++ (gr13 r2 cI 12 G3 ++ ([] : va_W))) H := hP
  have hD : va_D A (([(o1, .inr (3, [.null, .int 0])), (q1, .inl (c2, 13, .inr (.inr (.inr (.inr (fun i => if i < 13 then some (r2 i) else none))))))] : va_W) ++ (gr13 r2 cI 12 G3 ++ ([] : va_W))) := hD
  refine va_putF (D := (dC, dI)) (ci := 3) (v := .ref q1) (ty := .array (.array .int)) (C := RX3) (T := TX3) (N := 2) hx hb hts iw_X3_init_X3 tyX3 tyX3_ok nmX3 hown hK hP hD hS 0 rfl rfl 0 (by decide) (hts (.fieldLink RX3 11 "HolelessHouse$Going" "near" "[[I") hm_X3_init_6) (fun _ h9 => h9) rfl hin rfl (by decide +kernel) rfl rfl (Nat.le_of_ble_eq_true rfl) dX3_init_13 (fun H locs hP hD hS => ?_)
  have hP : va_P (dC, dI) vwCl (([(o1, .inr (3, [.ref q1, .int 0])), (q1, .inl (c2, 13, .inr (.inr (.inr (.inr (fun i => if i < 13 then some (r2 i) else none))))))] : va_W) ++ (gr13 r2 cI 12 G3 ++ ([] : va_W))) H := hP
  have hD : va_D A (([(o1, .inr (3, [.ref q1, .int 0])), (q1, .inl (c2, 13, .inr (.inr (.inr (.inr (fun i => if i < 13 then some (r2 i) else none))))))] : va_W) ++ (gr13 r2 cI 12 G3 ++ ([] : va_W))) := hD
  refine lv_aload_n hx hb dX3_init_16 rfl (lv_at hl 0 rfl) ?_
  refine lv_iconst (v := 0) hx hb dX3_init_17 (by decide) ?_
  refine va_put (D := (dC, dI)) (ci := 3) (v := .int 0) (ty := .int) (C := RX3) (T := TX3) (N := 2) hx hb hts iw_X3_init_X3 tyX3 tyX3_ok nmX3 hown hK hP hD hS 0 rfl rfl 1 (by decide) (hts (.fieldLink RX3 16 "HolelessHouse$Going" "size" "I") hm_X3_init_7) (fun _ h9 => h9) rfl (by decide +kernel) rfl rfl (Nat.le_of_ble_eq_true rfl) dX3_init_18 (fun H locs hP hD hS => ?_)
  have hP : va_P (dC, dI) vwCl (([(o1, .inr (3, [.ref q1, .int 0])), (q1, .inl (c2, 13, .inr (.inr (.inr (.inr (fun i => if i < 13 then some (r2 i) else none))))))] : va_W) ++ (gr13 r2 cI 12 G3 ++ ([] : va_W))) H := hP
  have hD : va_D A (([(o1, .inr (3, [.ref q1, .int 0])), (q1, .inl (c2, 13, .inr (.inr (.inr (.inr (fun i => if i < 13 then some (r2 i) else none))))))] : va_W) ++ (gr13 r2 cI 12 G3 ++ ([] : va_W))) := hD
  rw [hQ]
  exact W.vret hx hb hr (fun t ht hW => ⟨⟨(q1, r2, G3), rfl, G3_b, by rw [ht]; exact hP, va_K.moved hW.alike hK, hD⟩, hS.F ht⟩) hS.2.2 dX3_init_21
theorem iw_X5_init_X3 : ∀ w ∈ wsX30, w ∈ wsX5_init := fun _ h => List.mem_cons.mpr (Or.inr (List.mem_append.mpr (Or.inl (List.mem_append.mpr (Or.inr h)))))
theorem iw_X5_init_X5 : ∀ w ∈ wsX50, w ∈ wsX5_init := fun _ h => List.mem_cons.mpr (Or.inr (List.mem_append.mpr (Or.inr h)))
set_option maxHeartbeats 4000000 in
set_option maxRecDepth 100000 in
theorem kX5_init_1 (l : Launch) (dC : Nat → ClassId) (dI : Nat → Nat → Nat) (cI c2 cZ : ClassId) (o1 : Nat) (sz : Nat) : Met l yX5_init wsX5_init ({ frames := 2, cells := 29, slots := 4423, locals := 32 }) (va_Pc [.ref o1] (wPre (dC, dI) [(cI, .int), (c2, .array .int), (cZ, .boolean)] ([(o1, .inr (5, [.null, .null, .null, .int 0, .int 0, .int 0]))]) sz)) (va_Qv (fun (u : Nat × Nat × (Nat → Nat) × Nat × Nat × (Nat → Nat) × Int32 × (Nat → Nat → Int32) × (Nat → Int32) × (Nat → Nat → Int32)) => Iv 0 12 u.2.2.2.2.2.2.1 ∧ Bg 13 12 0 4095 u.2.2.2.2.2.2.2.1) (fun u t => wPost (dC, dI) [(cI, .int), (c2, .array .int), (cZ, .boolean)] (va_A ([(o1, .inr (5, [.null, .null, .null, .int 0, .int 0, .int 0]))]) sz) (([(o1, .inr (5, [.ref u.1, .ref u.2.2.2.1, .ref u.2.2.2.2.1, .int 0, .int 0, .int 0])), (u.1, .inr (3, [.ref u.2.1, .int u.2.2.2.2.2.2.1])), (u.2.1, .inl (c2, 13, .inr (.inr (.inr (.inr (fun i => if i < 13 then some (u.2.2.1 i) else none)))))), (u.2.2.2.1, .inl (cI, 4096, .inl u.2.2.2.2.2.2.2.2.1)), (u.2.2.2.2.1, .inl (c2, 12, .inr (.inr (.inr (.inr (fun i => if i < 12 then some (u.2.2.2.2.2.1 i) else none))))))] : va_W) ++ (gr13 u.2.2.1 cI 12 u.2.2.2.2.2.2.2.1 ++ (gr12 u.2.2.2.2.2.1 cI 12 u.2.2.2.2.2.2.2.2.2 ++ ([] : va_W)))) t) (va_A ([(o1, .inr (5, [.null, .null, .null, .int 0, .int 0, .int 0]))]) sz)) 29 4423 (va_A ([(o1, .inr (5, [.null, .null, .null, .int 0, .int 0, .int 0]))]) sz) := by
  refine Met.ofW (cc := cX5_init) (maxL := 1) (ret := none) (by decide) rfl ?_
  intro p e s m args below meth c s₁ B hml hv
  obtain ⟨rfl, hsz, hP, hK, hD0, hN⟩ := hv
  have hx := B.exec
  have hb := B.bytes
  have hr := B.returns
  have hts := atoms_spec (ws := wsX5_init) B.pre
  have hown : s.vm.findClass RX5 = some m.cls := findClass_of_methodNamed B.named
  have hlocks := B.notSynchronized
  have hin : meth.name = "<init>" := (name_of_methodNamed B.named B.method).1
  subst hsz
  have hD := hD0.self (sz := s.heap.size)
  generalize hAe : va_A ([(o1, .inr (5, [.null, .null, .null, .int 0, .int 0, .int 0]))]) s.heap.size = A at hD ⊢
  have hA : ∀ q : Nat, s.heap.size ≤ q → A q := fun q h => by rw [← hAe]; exact Or.inr h
  have hS : va_S A s.heap s.heap [] := va_S.rf
  have hP : va_P (dC, dI) vwCl ([(o1, .inr (5, [.null, .null, .null, .int 0, .int 0, .int 0]))]) s.heap := hP
  have hl := lv_entry ([.ref o1]) (n := 1) (Nat.le_of_ble_eq_true rfl)
  rw [lg_entry_eq]
  generalize (lg_sl ([.ref o1]) ++ List.replicate (1 - (lg_sl ([.ref o1])).length) Slot.unset).toArray = ls at hl ⊢
  have hl : lv_has ls 1 [(0, .ref o1)] := hl
  refine gen_Q (fun Q hQ => ?_)
  refine lv_aload_n hx hb dX5_init_0 rfl (lv_at hl 0 rfl) ?_
  refine W.objInit hx hb hown (hts (.methodLink RX5 3 objectInit) hm_X5_init_1) (hts (.instanceMethod objectInit) hm_X5_init_2) (hts (.code objectInit ⟨#[0xb1]⟩ 1 none) hm_X5_init_3) rfl (by rw [hml]; exact hl.1) rfl dX5_init_1 (Nat.le_of_ble_eq_true rfl) (Nat.le_of_ble_eq_true rfl) ?_
  refine W.eq (g2 := F0 m 4 ls []) rfl ?_
  refine lv_aload_n hx hb dX5_init_4 rfl (lv_at hl 0 rfl) ?_
  refine va_new (ci := 3) (fs := [.null, .int 0]) (C := RX3) (T := TX3) (N := 2) hx hb hts iw_X5_init_X3 tyX3 tyX3_ok hown (hts (.classLink RX5 9 RX3) hm_X5_init_4) (hts (.instantiable RX3 2) hm_X5_init_5) (hts (.initialized RX3) hm_X5_init_6) hK hP hD hS hA rfl (fun j hj => by rcases (show j = 0 ∨ j = 1 by omega) with rfl | rfl <;> rfl) (Nat.le_of_ble_eq_true rfl) (Nat.le_of_ble_eq_true rfl) dX5_init_5 (fun q1 H hP hD hS => ?_)
  refine W.widen (k := 1) (n := 2) (by decide) (by decide) ?_
  have hP : va_P (dC, dI) vwCl ([(o1, .inr (5, [.null, .null, .null, .int 0, .int 0, .int 0])), (q1, .inr (3, [.null, .int 0]))]) H := hP
  have hD : va_D A ([(o1, .inr (5, [.null, .null, .null, .int 0, .int 0, .int 0])), (q1, .inr (3, [.null, .int 0]))]) := hD
  refine lv_dup hx hb dX5_init_8 rfl ?_
  refine kc_v (D := (dC, dI)) (S := Nat × (Nat → Nat) × (Nat → Nat → Int32)) (wc := [(q1, .inr (3, [.null, .int 0]))]) (wr := [(o1, .inr (5, [.null, .null, .null, .int 0, .int 0, .int 0]))]) (w1 := fun u => ([(q1, .inr (3, [.ref u.1, .int 0])), (u.1, .inl (c2, 13, .inr (.inr (.inr (.inr (fun i => if i < 13 then some (u.2.1 i) else none))))))] : va_W) ++ (gr13 u.2.1 cI 12 u.2.2 ++ ([] : va_W))) (wn := fun u => ([(o1, .inr (5, [.null, .null, .null, .int 0, .int 0, .int 0])), (q1, .inr (3, [.ref u.1, .int 0])), (u.1, .inl (c2, 13, .inr (.inr (.inr (.inr (fun i => if i < 13 then some (u.2.1 i) else none))))))] : va_W) ++ (gr13 u.2.1 cI 12 u.2.2 ++ ([] : va_W))) (fun hPc hDc => va_runIN (As := []) (rest := [.ref q1, .ref o1]) ⟨hx, hb, hml, hown, hts⟩ (kX3_init_1 l dC dI cI c2 cZ q1 H.size) ⟨va_cnB 0 hts gX5_init_X3_init_n11 rfl rfl rfl (hN.1 _ ns_53) (hts (.initialized RX3) hm_X5_init_6) (by decide +kernel) ⟨Nat.le_of_ble_eq_true rfl, Nat.le_of_ble_eq_true rfl⟩, rfl, (hts (.instanceMethod yX3_init) hm_X5_init_15)⟩ (pre_S hPc hK hDc hN) rfl rfl hl.1 rfl (lv_room (Nat.le_of_ble_eq_true rfl)) dX5_init_9 ⟨Nat.le_of_ble_eq_true rfl, Nat.le_of_ble_eq_true rfl⟩) hP hD hS hA [1] [0] [0, 1, 2, 3, 4, 5, 6, 7, 8, 9, 10, 11, 12, 13, 14, 15] rfl rfl (by decide +kernel) (by decide +kernel) (by decide +kernel) (by decide +kernel) (fun _ => rfl) (fun u H locs hq hP hD hS => ?_)
  refine W.widen (k := 15) (n := 171) (by decide) (by decide) ?_
  obtain ⟨q2, r3, G4⟩ := u
  have G4_b := hq
  have hP : va_P (dC, dI) vwCl (([(o1, .inr (5, [.null, .null, .null, .int 0, .int 0, .int 0])), (q1, .inr (3, [.ref q2, .int 0])), (q2, .inl (c2, 13, .inr (.inr (.inr (.inr (fun i => if i < 13 then some (r3 i) else none))))))] : va_W) ++ (gr13 r3 cI 12 G4 ++ ([] : va_W))) H := hP
  have hD : va_D A (([(o1, .inr (5, [.null, .null, .null, .int 0, .int 0, .int 0])), (q1, .inr (3, [.ref q2, .int 0])), (q2, .inl (c2, 13, .inr (.inr (.inr (.inr (fun i => if i < 13 then some (r3 i) else none))))))] : va_W) ++ (gr13 r3 cI 12 G4 ++ ([] : va_W))) := hD
  refine va_putF (D := (dC, dI)) (ci := 5) (v := .ref q1) (ty := .object "HolelessHouse$Going") (C := RX5) (T := TX5) (N := 6) hx hb hts iw_X5_init_X5 tyX5 tyX5_ok nmX5 hown hK hP hD hS 0 rfl rfl 0 (by decide) (hts (.fieldLink RX5 12 "HolelessHouse$LeastSearch" "going" "LHolelessHouse$Going;") hm_X5_init_7) (fun _ h9 => h9) rfl hin rfl (by decide +kernel) rfl rfl (Nat.le_of_ble_eq_true rfl) dX5_init_12 (fun H locs hP hD hS => ?_)
  have hP : va_P (dC, dI) vwCl (([(o1, .inr (5, [.ref q1, .null, .null, .int 0, .int 0, .int 0])), (q1, .inr (3, [.ref q2, .int 0])), (q2, .inl (c2, 13, .inr (.inr (.inr (.inr (fun i => if i < 13 then some (r3 i) else none))))))] : va_W) ++ (gr13 r3 cI 12 G4 ++ ([] : va_W))) H := hP
  have hD : va_D A (([(o1, .inr (5, [.ref q1, .null, .null, .int 0, .int 0, .int 0])), (q1, .inr (3, [.ref q2, .int 0])), (q2, .inl (c2, 13, .inr (.inr (.inr (.inr (fun i => if i < 13 then some (r3 i) else none))))))] : va_W) ++ (gr13 r3 cI 12 G4 ++ ([] : va_W))) := hD
  refine lv_aload_n hx hb dX5_init_15 rfl (lv_at hl 0 rfl) ?_
  refine lv_sipush (v := 4096) hx hb dX5_init_16 (by decide) ?_
  refine va_newa (atype := .int) (ty := .int) (N' := 4096) (a0 := (4096, .inl (fun _ => 0))) hx hb (hts (.arrayClass .int) hm_X5_init_8) rfl hK hP hD hS hA (fun _ => rfl) (by decide +kernel) (by decide +kernel) (by decide +kernel) (Nat.le_of_ble_eq_true rfl) (Nat.le_of_ble_eq_true rfl) dX5_init_19 (fun q5 cA H hK1 hP hD hS => ?_)
  refine W.widen (k := 16) (n := 4267) (by decide) (by decide) ?_
  have e9 : cI = cA := K3_int hK1
  subst e9
  obtain ⟨f6, f6_e⟩ : ∃ g : Nat → Int32, g = fun _ => 0 := ⟨_, rfl⟩
  rw [← f6_e] at hP hD
  have hP := hP.sub (ws' := ([(o1, .inr (5, [.ref q1, .null, .null, .int 0, .int 0, .int 0])), (q1, .inr (3, [.ref q2, .int 0])), (q2, .inl (c2, 13, .inr (.inr (.inr (.inr (fun i => if i < 13 then some (r3 i) else none)))))), (q5, .inl (cI, 4096, .inl f6))] : va_W) ++ (gr13 r3 cI 12 G4 ++ ([] : va_W))) [0, 1, 2, 16, 3, 4, 5, 6, 7, 8, 9, 10, 11, 12, 13, 14, 15] rfl
  have hD := hD.sub (ws' := ([(o1, .inr (5, [.ref q1, .null, .null, .int 0, .int 0, .int 0])), (q1, .inr (3, [.ref q2, .int 0])), (q2, .inl (c2, 13, .inr (.inr (.inr (.inr (fun i => if i < 13 then some (r3 i) else none)))))), (q5, .inl (cI, 4096, .inl f6))] : va_W) ++ (gr13 r3 cI 12 G4 ++ ([] : va_W))) [0, 1, 2, 16, 3, 4, 5, 6, 7, 8, 9, 10, 11, 12, 13, 14, 15] (by decide) rfl
  refine va_putF (D := (dC, dI)) (ci := 5) (v := .ref q5) (ty := .array .int) (C := RX5) (T := TX5) (N := 6) hx hb hts iw_X5_init_X5 tyX5 tyX5_ok nmX5 hown hK hP hD hS 0 rfl rfl 1 (by decide) (hts (.fieldLink RX5 18 "HolelessHouse$LeastSearch" "notes" "[I") hm_X5_init_9) (fun _ h9 => h9) rfl hin rfl (by decide +kernel) rfl rfl (Nat.le_of_ble_eq_true rfl) dX5_init_21 (fun H locs hP hD hS => ?_)
  have hP : va_P (dC, dI) vwCl (([(o1, .inr (5, [.ref q1, .ref q5, .null, .int 0, .int 0, .int 0])), (q1, .inr (3, [.ref q2, .int 0])), (q2, .inl (c2, 13, .inr (.inr (.inr (.inr (fun i => if i < 13 then some (r3 i) else none)))))), (q5, .inl (cI, 4096, .inl f6))] : va_W) ++ (gr13 r3 cI 12 G4 ++ ([] : va_W))) H := hP
  have hD : va_D A (([(o1, .inr (5, [.ref q1, .ref q5, .null, .int 0, .int 0, .int 0])), (q1, .inr (3, [.ref q2, .int 0])), (q2, .inl (c2, 13, .inr (.inr (.inr (.inr (fun i => if i < 13 then some (r3 i) else none)))))), (q5, .inl (cI, 4096, .inl f6))] : va_W) ++ (gr13 r3 cI 12 G4 ++ ([] : va_W))) := hD
  refine lv_aload_n hx hb dX5_init_24 rfl (lv_at hl 0 rfl) ?_
  refine lv_bipush (v := 12) hx hb dX5_init_25 (by decide) ?_
  refine lv_bipush (v := 12) hx hb dX5_init_27 (by decide) ?_
  refine mnaG12 (cI := cI) (c2 := c2) (cZ := cZ) (K' := 12) hx hb hown (hts (.classLink RX5 22 "[[I") hm_X5_init_10) hN.2 (hts (.arrayClass .int) hm_X5_init_8) hK rfl hP hD hS hA (by decide +kernel) (by decide +kernel) (by decide +kernel) (by decide +kernel) (by decide) (by decide) (by decide) (Nat.le_of_ble_eq_true rfl) (Nat.le_of_ble_eq_true rfl) dX5_init_29 (fun q7 r8 G9 H G9_e hP hD hS => ?_)
  refine W.widen (k := 29) (n := 4423) (by decide) (by decide) ?_
  have hP := hP.sub (ws' := ([(o1, .inr (5, [.ref q1, .ref q5, .null, .int 0, .int 0, .int 0])), (q1, .inr (3, [.ref q2, .int 0])), (q2, .inl (c2, 13, .inr (.inr (.inr (.inr (fun i => if i < 13 then some (r3 i) else none)))))), (q5, .inl (cI, 4096, .inl f6)), (q7, .inl (c2, 12, .inr (.inr (.inr (.inr (fun i => if i < 12 then some (r8 i) else none))))))] : va_W) ++ (gr13 r3 cI 12 G4 ++ (gr12 r8 cI 12 G9 ++ ([] : va_W)))) [0, 1, 2, 3, 17, 4, 5, 6, 7, 8, 9, 10, 11, 12, 13, 14, 15, 16, 18, 19, 20, 21, 22, 23, 24, 25, 26, 27, 28, 29] rfl
  have hD := hD.sub (ws' := ([(o1, .inr (5, [.ref q1, .ref q5, .null, .int 0, .int 0, .int 0])), (q1, .inr (3, [.ref q2, .int 0])), (q2, .inl (c2, 13, .inr (.inr (.inr (.inr (fun i => if i < 13 then some (r3 i) else none)))))), (q5, .inl (cI, 4096, .inl f6)), (q7, .inl (c2, 12, .inr (.inr (.inr (.inr (fun i => if i < 12 then some (r8 i) else none))))))] : va_W) ++ (gr13 r3 cI 12 G4 ++ (gr12 r8 cI 12 G9 ++ ([] : va_W)))) [0, 1, 2, 3, 17, 4, 5, 6, 7, 8, 9, 10, 11, 12, 13, 14, 15, 16, 18, 19, 20, 21, 22, 23, 24, 25, 26, 27, 28, 29] (by decide) rfl
  refine va_putF (D := (dC, dI)) (ci := 5) (v := .ref q7) (ty := .array (.array .int)) (C := RX5) (T := TX5) (N := 6) hx hb hts iw_X5_init_X5 tyX5 tyX5_ok nmX5 hown hK hP hD hS 0 rfl rfl 2 (by decide) (hts (.fieldLink RX5 24 "HolelessHouse$LeastSearch" "prices" "[[I") hm_X5_init_11) (fun _ h9 => h9) rfl hin rfl (by decide +kernel) rfl rfl (Nat.le_of_ble_eq_true rfl) dX5_init_33 (fun H locs hP hD hS => ?_)
  have hP : va_P (dC, dI) vwCl (([(o1, .inr (5, [.ref q1, .ref q5, .ref q7, .int 0, .int 0, .int 0])), (q1, .inr (3, [.ref q2, .int 0])), (q2, .inl (c2, 13, .inr (.inr (.inr (.inr (fun i => if i < 13 then some (r3 i) else none)))))), (q5, .inl (cI, 4096, .inl f6)), (q7, .inl (c2, 12, .inr (.inr (.inr (.inr (fun i => if i < 12 then some (r8 i) else none))))))] : va_W) ++ (gr13 r3 cI 12 G4 ++ (gr12 r8 cI 12 G9 ++ ([] : va_W)))) H := hP
  have hD : va_D A (([(o1, .inr (5, [.ref q1, .ref q5, .ref q7, .int 0, .int 0, .int 0])), (q1, .inr (3, [.ref q2, .int 0])), (q2, .inl (c2, 13, .inr (.inr (.inr (.inr (fun i => if i < 13 then some (r3 i) else none)))))), (q5, .inl (cI, 4096, .inl f6)), (q7, .inl (c2, 12, .inr (.inr (.inr (.inr (fun i => if i < 12 then some (r8 i) else none))))))] : va_W) ++ (gr13 r3 cI 12 G4 ++ (gr12 r8 cI 12 G9 ++ ([] : va_W)))) := hD
  refine lv_aload_n hx hb dX5_init_36 rfl (lv_at hl 0 rfl) ?_
  refine lv_iconst (v := 0) hx hb dX5_init_37 (by decide) ?_
  refine va_put (D := (dC, dI)) (ci := 5) (v := .int 0) (ty := .int) (C := RX5) (T := TX5) (N := 6) hx hb hts iw_X5_init_X5 tyX5 tyX5_ok nmX5 hown hK hP hD hS 0 rfl rfl 3 (by decide) (hts (.fieldLink RX5 27 "HolelessHouse$LeastSearch" "rule" "I") hm_X5_init_12) (fun _ h9 => h9) rfl (by decide +kernel) rfl rfl (Nat.le_of_ble_eq_true rfl) dX5_init_38 (fun H locs hP hD hS => ?_)
  have hP : va_P (dC, dI) vwCl (([(o1, .inr (5, [.ref q1, .ref q5, .ref q7, .int 0, .int 0, .int 0])), (q1, .inr (3, [.ref q2, .int 0])), (q2, .inl (c2, 13, .inr (.inr (.inr (.inr (fun i => if i < 13 then some (r3 i) else none)))))), (q5, .inl (cI, 4096, .inl f6)), (q7, .inl (c2, 12, .inr (.inr (.inr (.inr (fun i => if i < 12 then some (r8 i) else none))))))] : va_W) ++ (gr13 r3 cI 12 G4 ++ (gr12 r8 cI 12 G9 ++ ([] : va_W)))) H := hP
  have hD : va_D A (([(o1, .inr (5, [.ref q1, .ref q5, .ref q7, .int 0, .int 0, .int 0])), (q1, .inr (3, [.ref q2, .int 0])), (q2, .inl (c2, 13, .inr (.inr (.inr (.inr (fun i => if i < 13 then some (r3 i) else none)))))), (q5, .inl (cI, 4096, .inl f6)), (q7, .inl (c2, 12, .inr (.inr (.inr (.inr (fun i => if i < 12 then some (r8 i) else none))))))] : va_W) ++ (gr13 r3 cI 12 G4 ++ (gr12 r8 cI 12 G9 ++ ([] : va_W)))) := hD
  refine lv_aload_n hx hb dX5_init_41 rfl (lv_at hl 0 rfl) ?_
  refine lv_iconst (v := 0) hx hb dX5_init_42 (by decide) ?_
  refine va_put (D := (dC, dI)) (ci := 5) (v := .int 0) (ty := .int) (C := RX5) (T := TX5) (N := 6) hx hb hts iw_X5_init_X5 tyX5 tyX5_ok nmX5 hown hK hP hD hS 0 rfl rfl 4 (by decide) (hts (.fieldLink RX5 31 "HolelessHouse$LeastSearch" "all" "I") hm_X5_init_13) (fun _ h9 => h9) rfl (by decide +kernel) rfl rfl (Nat.le_of_ble_eq_true rfl) dX5_init_43 (fun H locs hP hD hS => ?_)
  have hP : va_P (dC, dI) vwCl (([(o1, .inr (5, [.ref q1, .ref q5, .ref q7, .int 0, .int 0, .int 0])), (q1, .inr (3, [.ref q2, .int 0])), (q2, .inl (c2, 13, .inr (.inr (.inr (.inr (fun i => if i < 13 then some (r3 i) else none)))))), (q5, .inl (cI, 4096, .inl f6)), (q7, .inl (c2, 12, .inr (.inr (.inr (.inr (fun i => if i < 12 then some (r8 i) else none))))))] : va_W) ++ (gr13 r3 cI 12 G4 ++ (gr12 r8 cI 12 G9 ++ ([] : va_W)))) H := hP
  have hD : va_D A (([(o1, .inr (5, [.ref q1, .ref q5, .ref q7, .int 0, .int 0, .int 0])), (q1, .inr (3, [.ref q2, .int 0])), (q2, .inl (c2, 13, .inr (.inr (.inr (.inr (fun i => if i < 13 then some (r3 i) else none)))))), (q5, .inl (cI, 4096, .inl f6)), (q7, .inl (c2, 12, .inr (.inr (.inr (.inr (fun i => if i < 12 then some (r8 i) else none))))))] : va_W) ++ (gr13 r3 cI 12 G4 ++ (gr12 r8 cI 12 G9 ++ ([] : va_W)))) := hD
  refine lv_aload_n hx hb dX5_init_46 rfl (lv_at hl 0 rfl) ?_
  refine lv_iconst (v := 0) hx hb dX5_init_47 (by decide) ?_
  refine va_put (D := (dC, dI)) (ci := 5) (v := .int 0) (ty := .int) (C := RX5) (T := TX5) (N := 6) hx hb hts iw_X5_init_X5 tyX5 tyX5_ok nmX5 hown hK hP hD hS 0 rfl rfl 5 (by decide) (hts (.fieldLink RX5 34 "HolelessHouse$LeastSearch" "size" "I") hm_X5_init_14) (fun _ h9 => h9) rfl (by decide +kernel) rfl rfl (Nat.le_of_ble_eq_true rfl) dX5_init_48 (fun H locs hP hD hS => ?_)
  have hP : va_P (dC, dI) vwCl (([(o1, .inr (5, [.ref q1, .ref q5, .ref q7, .int 0, .int 0, .int 0])), (q1, .inr (3, [.ref q2, .int 0])), (q2, .inl (c2, 13, .inr (.inr (.inr (.inr (fun i => if i < 13 then some (r3 i) else none)))))), (q5, .inl (cI, 4096, .inl f6)), (q7, .inl (c2, 12, .inr (.inr (.inr (.inr (fun i => if i < 12 then some (r8 i) else none))))))] : va_W) ++ (gr13 r3 cI 12 G4 ++ (gr12 r8 cI 12 G9 ++ ([] : va_W)))) H := hP
  have hD : va_D A (([(o1, .inr (5, [.ref q1, .ref q5, .ref q7, .int 0, .int 0, .int 0])), (q1, .inr (3, [.ref q2, .int 0])), (q2, .inl (c2, 13, .inr (.inr (.inr (.inr (fun i => if i < 13 then some (r3 i) else none)))))), (q5, .inl (cI, 4096, .inl f6)), (q7, .inl (c2, 12, .inr (.inr (.inr (.inr (fun i => if i < 12 then some (r8 i) else none))))))] : va_W) ++ (gr13 r3 cI 12 G4 ++ (gr12 r8 cI 12 G9 ++ ([] : va_W)))) := hD
  rw [hQ]
  exact W.vret hx hb hr (fun t ht hW => ⟨⟨(q1, q2, r3, q5, q7, r8, 0, G4, f6, G9), rfl, ⟨(iv_w ik_0 (by decide)), G4_b⟩, by rw [ht]; exact hP, va_K.moved hW.alike hK, hD⟩, hS.F ht⟩) hS.2.2 dX5_init_51
theorem iw_X6_init_X3 : ∀ w ∈ wsX30, w ∈ wsX6_init := fun _ h => List.mem_cons.mpr (Or.inr (List.mem_append.mpr (Or.inl (List.mem_append.mpr (Or.inl (List.mem_append.mpr (Or.inr h)))))))
theorem iw_X6_init_X5 : ∀ w ∈ wsX50, w ∈ wsX6_init := fun _ h => List.mem_cons.mpr (Or.inr (List.mem_append.mpr (Or.inr h)))
theorem iw_X6_init_X6 : ∀ w ∈ wsX60, w ∈ wsX6_init := fun _ h => List.mem_cons.mpr (Or.inr (List.mem_append.mpr (Or.inl (List.mem_append.mpr (Or.inr h)))))
set_option maxHeartbeats 4000000 in
set_option maxRecDepth 100000 in
theorem kX6_init_1 (l : Launch) (dC : Nat → ClassId) (dI : Nat → Nat → Nat) (cI c2 cZ : ClassId) (o1 : Nat) (sz : Nat) : Met l yX6_init wsX6_init ({ frames := 3, cells := 47, slots := 4624, locals := 52 }) (va_Pc [.ref o1] (wPre (dC, dI) [(cI, .int), (c2, .array .int), (cZ, .boolean)] ([(o1, .inr (6, [.null, .null, .null, .null, .int 0, .int 0, .int 0, .int 0, .int 0]))]) sz)) (va_Qv (fun (u : Nat × Nat × (Nat → Nat) × Nat × Nat × Nat × (Nat → Nat) × Nat × Nat × (Nat → Nat) × Nat × Nat × Int32 × (Nat → Nat → Int32) × Int32 × Int32 × Int32 × Int32 × (Nat → Nat → Int32) × (Nat → Int32) × (Nat → Nat → Int32) × (Nat → Int32) × (Nat → Int32)) => Iv 0 12 u.2.2.2.2.2.2.2.2.2.2.2.2.1 ∧ Bg 13 12 0 4095 u.2.2.2.2.2.2.2.2.2.2.2.2.2.1 ∧ Iv 0 4095 u.2.2.2.2.2.2.2.2.2.2.2.2.2.2.2.1 ∧ Iv 0 12 u.2.2.2.2.2.2.2.2.2.2.2.2.2.2.2.2.1 ∧ Iv 0 12 u.2.2.2.2.2.2.2.2.2.2.2.2.2.2.2.2.2.1 ∧ Bg 13 12 0 4095 u.2.2.2.2.2.2.2.2.2.2.2.2.2.2.2.2.2.2.1 ∧ Bd 12 0 11 u.2.2.2.2.2.2.2.2.2.2.2.2.2.2.2.2.2.2.2.2.2.1 ∧ Bd 12 0 11 u.2.2.2.2.2.2.2.2.2.2.2.2.2.2.2.2.2.2.2.2.2.2) (fun u t => wPost (dC, dI) [(cI, .int), (c2, .array .int), (cZ, .boolean)] (va_A ([(o1, .inr (6, [.null, .null, .null, .null, .int 0, .int 0, .int 0, .int 0, .int 0]))]) sz) (([(o1, .inr (6, [.ref u.1, .ref u.2.2.2.1, .ref u.2.2.2.2.2.2.2.2.2.2.1, .ref u.2.2.2.2.2.2.2.2.2.2.2.1, .int 0, .int 0, .int 0, .int 0, .int 0])), (u.1, .inr (3, [.ref u.2.1, .int u.2.2.2.2.2.2.2.2.2.2.2.2.1])), (u.2.1, .inl (c2, 13, .inr (.inr (.inr (.inr (fun i => if i < 13 then some (u.2.2.1 i) else none)))))), (u.2.2.2.1, .inr (5, [.ref u.2.2.2.2.1, .ref u.2.2.2.2.2.2.2.1, .ref u.2.2.2.2.2.2.2.2.1, .int u.2.2.2.2.2.2.2.2.2.2.2.2.2.2.1, .int u.2.2.2.2.2.2.2.2.2.2.2.2.2.2.2.1, .int u.2.2.2.2.2.2.2.2.2.2.2.2.2.2.2.2.1])), (u.2.2.2.2.1, .inr (3, [.ref u.2.2.2.2.2.1, .int u.2.2.2.2.2.2.2.2.2.2.2.2.2.2.2.2.2.1])), (u.2.2.2.2.2.1, .inl (c2, 13, .inr (.inr (.inr (.inr (fun i => if i < 13 then some (u.2.2.2.2.2.2.1 i) else none)))))), (u.2.2.2.2.2.2.2.1, .inl (cI, 4096, .inl u.2.2.2.2.2.2.2.2.2.2.2.2.2.2.2.2.2.2.2.1)), (u.2.2.2.2.2.2.2.2.1, .inl (c2, 12, .inr (.inr (.inr (.inr (fun i => if i < 12 then some (u.2.2.2.2.2.2.2.2.2.1 i) else none)))))), (u.2.2.2.2.2.2.2.2.2.2.1, .inl (cI, 12, .inl u.2.2.2.2.2.2.2.2.2.2.2.2.2.2.2.2.2.2.2.2.2.1)), (u.2.2.2.2.2.2.2.2.2.2.2.1, .inl (cI, 12, .inl u.2.2.2.2.2.2.2.2.2.2.2.2.2.2.2.2.2.2.2.2.2.2))] : va_W) ++ (gr13 u.2.2.1 cI 12 u.2.2.2.2.2.2.2.2.2.2.2.2.2.1 ++ (gr13 u.2.2.2.2.2.2.1 cI 12 u.2.2.2.2.2.2.2.2.2.2.2.2.2.2.2.2.2.2.1 ++ (gr12 u.2.2.2.2.2.2.2.2.2.1 cI 12 u.2.2.2.2.2.2.2.2.2.2.2.2.2.2.2.2.2.2.2.2.1 ++ ([] : va_W))))) t) (va_A ([(o1, .inr (6, [.null, .null, .null, .null, .int 0, .int 0, .int 0, .int 0, .int 0]))]) sz)) 47 4624 (va_A ([(o1, .inr (6, [.null, .null, .null, .null, .int 0, .int 0, .int 0, .int 0, .int 0]))]) sz) := by
  refine Met.ofW (cc := cX6_init) (maxL := 1) (ret := none) (by decide) rfl ?_
  intro p e s m args below meth c s₁ B hml hv
  obtain ⟨rfl, hsz, hP, hK, hD0, hN⟩ := hv
  have hx := B.exec
  have hb := B.bytes
  have hr := B.returns
  have hts := atoms_spec (ws := wsX6_init) B.pre
  have hown : s.vm.findClass RX6 = some m.cls := findClass_of_methodNamed B.named
  have hlocks := B.notSynchronized
  have hin : meth.name = "<init>" := (name_of_methodNamed B.named B.method).1
  subst hsz
  have hD := hD0.self (sz := s.heap.size)
  generalize hAe : va_A ([(o1, .inr (6, [.null, .null, .null, .null, .int 0, .int 0, .int 0, .int 0, .int 0]))]) s.heap.size = A at hD ⊢
  have hA : ∀ q : Nat, s.heap.size ≤ q → A q := fun q h => by rw [← hAe]; exact Or.inr h
  have hS : va_S A s.heap s.heap [] := va_S.rf
  have hP : va_P (dC, dI) vwCl ([(o1, .inr (6, [.null, .null, .null, .null, .int 0, .int 0, .int 0, .int 0, .int 0]))]) s.heap := hP
  have hl := lv_entry ([.ref o1]) (n := 1) (Nat.le_of_ble_eq_true rfl)
  rw [lg_entry_eq]
  generalize (lg_sl ([.ref o1]) ++ List.replicate (1 - (lg_sl ([.ref o1])).length) Slot.unset).toArray = ls at hl ⊢
  have hl : lv_has ls 1 [(0, .ref o1)] := hl
  refine gen_Q (fun Q hQ => ?_)
  refine lv_aload_n hx hb dX6_init_0 rfl (lv_at hl 0 rfl) ?_
  refine W.objInit hx hb hown (hts (.methodLink RX6 3 objectInit) hm_X6_init_1) (hts (.instanceMethod objectInit) hm_X6_init_2) (hts (.code objectInit ⟨#[0xb1]⟩ 1 none) hm_X6_init_3) rfl (by rw [hml]; exact hl.1) rfl dX6_init_1 (Nat.le_of_ble_eq_true rfl) (Nat.le_of_ble_eq_true rfl) ?_
  refine W.eq (g2 := F0 m 4 ls []) rfl ?_
  refine lv_aload_n hx hb dX6_init_4 rfl (lv_at hl 0 rfl) ?_
  refine va_new (ci := 3) (fs := [.null, .int 0]) (C := RX3) (T := TX3) (N := 2) hx hb hts iw_X6_init_X3 tyX3 tyX3_ok hown (hts (.classLink RX6 9 RX3) hm_X6_init_4) (hts (.instantiable RX3 2) hm_X6_init_5) (hts (.initialized RX3) hm_X6_init_6) hK hP hD hS hA rfl (fun j hj => by rcases (show j = 0 ∨ j = 1 by omega) with rfl | rfl <;> rfl) (Nat.le_of_ble_eq_true rfl) (Nat.le_of_ble_eq_true rfl) dX6_init_5 (fun q1 H hP hD hS => ?_)
  refine W.widen (k := 1) (n := 2) (by decide) (by decide) ?_
  have hP : va_P (dC, dI) vwCl ([(o1, .inr (6, [.null, .null, .null, .null, .int 0, .int 0, .int 0, .int 0, .int 0])), (q1, .inr (3, [.null, .int 0]))]) H := hP
  have hD : va_D A ([(o1, .inr (6, [.null, .null, .null, .null, .int 0, .int 0, .int 0, .int 0, .int 0])), (q1, .inr (3, [.null, .int 0]))]) := hD
  refine lv_dup hx hb dX6_init_8 rfl ?_
  refine kc_v (D := (dC, dI)) (S := Nat × (Nat → Nat) × (Nat → Nat → Int32)) (wc := [(q1, .inr (3, [.null, .int 0]))]) (wr := [(o1, .inr (6, [.null, .null, .null, .null, .int 0, .int 0, .int 0, .int 0, .int 0]))]) (w1 := fun u => ([(q1, .inr (3, [.ref u.1, .int 0])), (u.1, .inl (c2, 13, .inr (.inr (.inr (.inr (fun i => if i < 13 then some (u.2.1 i) else none))))))] : va_W) ++ (gr13 u.2.1 cI 12 u.2.2 ++ ([] : va_W))) (wn := fun u => ([(o1, .inr (6, [.null, .null, .null, .null, .int 0, .int 0, .int 0, .int 0, .int 0])), (q1, .inr (3, [.ref u.1, .int 0])), (u.1, .inl (c2, 13, .inr (.inr (.inr (.inr (fun i => if i < 13 then some (u.2.1 i) else none))))))] : va_W) ++ (gr13 u.2.1 cI 12 u.2.2 ++ ([] : va_W))) (fun hPc hDc => va_runIN (As := []) (rest := [.ref q1, .ref o1]) ⟨hx, hb, hml, hown, hts⟩ (kX3_init_1 l dC dI cI c2 cZ q1 H.size) ⟨va_cnB 0 hts gX6_init_X3_init_n11 rfl rfl rfl (hN.1 _ ns_51) (hts (.initialized RX3) hm_X6_init_6) (by decide +kernel) ⟨Nat.le_of_ble_eq_true rfl, Nat.le_of_ble_eq_true rfl⟩, rfl, (hts (.instanceMethod yX3_init) hm_X6_init_20)⟩ (pre_S hPc hK hDc hN) rfl rfl hl.1 rfl (lv_room (Nat.le_of_ble_eq_true rfl)) dX6_init_9 ⟨Nat.le_of_ble_eq_true rfl, Nat.le_of_ble_eq_true rfl⟩) hP hD hS hA [1] [0] [0, 1, 2, 3, 4, 5, 6, 7, 8, 9, 10, 11, 12, 13, 14, 15] rfl rfl (by decide +kernel) (by decide +kernel) (by decide +kernel) (by decide +kernel) (fun _ => rfl) (fun u H locs hq hP hD hS => ?_)
  refine W.widen (k := 15) (n := 171) (by decide) (by decide) ?_
  obtain ⟨q2, r3, G4⟩ := u
  have G4_b := hq
  have hP : va_P (dC, dI) vwCl (([(o1, .inr (6, [.null, .null, .null, .null, .int 0, .int 0, .int 0, .int 0, .int 0])), (q1, .inr (3, [.ref q2, .int 0])), (q2, .inl (c2, 13, .inr (.inr (.inr (.inr (fun i => if i < 13 then some (r3 i) else none))))))] : va_W) ++ (gr13 r3 cI 12 G4 ++ ([] : va_W))) H := hP
  have hD : va_D A (([(o1, .inr (6, [.null, .null, .null, .null, .int 0, .int 0, .int 0, .int 0, .int 0])), (q1, .inr (3, [.ref q2, .int 0])), (q2, .inl (c2, 13, .inr (.inr (.inr (.inr (fun i => if i < 13 then some (r3 i) else none))))))] : va_W) ++ (gr13 r3 cI 12 G4 ++ ([] : va_W))) := hD
  refine va_putF (D := (dC, dI)) (ci := 6) (v := .ref q1) (ty := .object "HolelessHouse$Going") (C := RX6) (T := TX6) (N := 9) hx hb hts iw_X6_init_X6 tyX6 tyX6_ok nmX6 hown hK hP hD hS 0 rfl rfl 0 (by decide) (hts (.fieldLink RX6 12 "HolelessHouse$Ordering" "going" "LHolelessHouse$Going;") hm_X6_init_7) (fun _ h9 => h9) rfl hin rfl (by decide +kernel) rfl rfl (Nat.le_of_ble_eq_true rfl) dX6_init_12 (fun H locs hP hD hS => ?_)
  have hP : va_P (dC, dI) vwCl (([(o1, .inr (6, [.ref q1, .null, .null, .null, .int 0, .int 0, .int 0, .int 0, .int 0])), (q1, .inr (3, [.ref q2, .int 0])), (q2, .inl (c2, 13, .inr (.inr (.inr (.inr (fun i => if i < 13 then some (r3 i) else none))))))] : va_W) ++ (gr13 r3 cI 12 G4 ++ ([] : va_W))) H := hP
  have hD : va_D A (([(o1, .inr (6, [.ref q1, .null, .null, .null, .int 0, .int 0, .int 0, .int 0, .int 0])), (q1, .inr (3, [.ref q2, .int 0])), (q2, .inl (c2, 13, .inr (.inr (.inr (.inr (fun i => if i < 13 then some (r3 i) else none))))))] : va_W) ++ (gr13 r3 cI 12 G4 ++ ([] : va_W))) := hD
  refine lv_aload_n hx hb dX6_init_15 rfl (lv_at hl 0 rfl) ?_
  refine va_new (ci := 5) (fs := [.null, .null, .null, .int 0, .int 0, .int 0]) (C := RX5) (T := TX5) (N := 6) hx hb hts iw_X6_init_X5 tyX5 tyX5_ok hown (hts (.classLink RX6 18 RX5) hm_X6_init_8) (hts (.instantiable RX5 6) hm_X6_init_9) (hts (.initialized RX5) hm_X6_init_10) hK hP hD hS hA rfl (fun j hj => by rcases (show j = 0 ∨ j = 1 ∨ j = 2 ∨ j = 3 ∨ j = 4 ∨ j = 5 by omega) with rfl | rfl | rfl | rfl | rfl | rfl <;> rfl) (Nat.le_of_ble_eq_true rfl) (Nat.le_of_ble_eq_true rfl) dX6_init_16 (fun q5 H hP hD hS => ?_)
  refine W.widen (k := 16) (n := 177) (by decide) (by decide) ?_
  have hP := hP.sub (ws' := ([(o1, .inr (6, [.ref q1, .null, .null, .null, .int 0, .int 0, .int 0, .int 0, .int 0])), (q1, .inr (3, [.ref q2, .int 0])), (q2, .inl (c2, 13, .inr (.inr (.inr (.inr (fun i => if i < 13 then some (r3 i) else none)))))), (q5, .inr (5, [.null, .null, .null, .int 0, .int 0, .int 0]))] : va_W) ++ (gr13 r3 cI 12 G4 ++ ([] : va_W))) [0, 1, 2, 16, 3, 4, 5, 6, 7, 8, 9, 10, 11, 12, 13, 14, 15] rfl
  have hD := hD.sub (ws' := ([(o1, .inr (6, [.ref q1, .null, .null, .null, .int 0, .int 0, .int 0, .int 0, .int 0])), (q1, .inr (3, [.ref q2, .int 0])), (q2, .inl (c2, 13, .inr (.inr (.inr (.inr (fun i => if i < 13 then some (r3 i) else none)))))), (q5, .inr (5, [.null, .null, .null, .int 0, .int 0, .int 0]))] : va_W) ++ (gr13 r3 cI 12 G4 ++ ([] : va_W))) [0, 1, 2, 16, 3, 4, 5, 6, 7, 8, 9, 10, 11, 12, 13, 14, 15] (by decide) rfl
  refine lv_dup hx hb dX6_init_19 rfl ?_
  refine kc_v (D := (dC, dI)) (S := Nat × Nat × (Nat → Nat) × Nat × Nat × (Nat → Nat) × Int32 × (Nat → Nat → Int32) × (Nat → Int32) × (Nat → Nat → Int32)) (wc := [(q5, .inr (5, [.null, .null, .null, .int 0, .int 0, .int 0]))]) (wr := ([(o1, .inr (6, [.ref q1, .null, .null, .null, .int 0, .int 0, .int 0, .int 0, .int 0])), (q1, .inr (3, [.ref q2, .int 0])), (q2, .inl (c2, 13, .inr (.inr (.inr (.inr (fun i => if i < 13 then some (r3 i) else none))))))] : va_W) ++ (gr13 r3 cI 12 G4 ++ ([] : va_W))) (w1 := fun u => ([(q5, .inr (5, [.ref u.1, .ref u.2.2.2.1, .ref u.2.2.2.2.1, .int 0, .int 0, .int 0])), (u.1, .inr (3, [.ref u.2.1, .int u.2.2.2.2.2.2.1])), (u.2.1, .inl (c2, 13, .inr (.inr (.inr (.inr (fun i => if i < 13 then some (u.2.2.1 i) else none)))))), (u.2.2.2.1, .inl (cI, 4096, .inl u.2.2.2.2.2.2.2.2.1)), (u.2.2.2.2.1, .inl (c2, 12, .inr (.inr (.inr (.inr (fun i => if i < 12 then some (u.2.2.2.2.2.1 i) else none))))))] : va_W) ++ (gr13 u.2.2.1 cI 12 u.2.2.2.2.2.2.2.1 ++ (gr12 u.2.2.2.2.2.1 cI 12 u.2.2.2.2.2.2.2.2.2 ++ ([] : va_W)))) (wn := fun u => ([(o1, .inr (6, [.ref q1, .null, .null, .null, .int 0, .int 0, .int 0, .int 0, .int 0])), (q1, .inr (3, [.ref q2, .int 0])), (q2, .inl (c2, 13, .inr (.inr (.inr (.inr (fun i => if i < 13 then some (r3 i) else none)))))), (q5, .inr (5, [.ref u.1, .ref u.2.2.2.1, .ref u.2.2.2.2.1, .int 0, .int 0, .int 0])), (u.1, .inr (3, [.ref u.2.1, .int u.2.2.2.2.2.2.1])), (u.2.1, .inl (c2, 13, .inr (.inr (.inr (.inr (fun i => if i < 13 then some (u.2.2.1 i) else none)))))), (u.2.2.2.1, .inl (cI, 4096, .inl u.2.2.2.2.2.2.2.2.1)), (u.2.2.2.2.1, .inl (c2, 12, .inr (.inr (.inr (.inr (fun i => if i < 12 then some (u.2.2.2.2.2.1 i) else none))))))] : va_W) ++ (gr13 r3 cI 12 G4 ++ (gr13 u.2.2.1 cI 12 u.2.2.2.2.2.2.2.1 ++ (gr12 u.2.2.2.2.2.1 cI 12 u.2.2.2.2.2.2.2.2.2 ++ ([] : va_W))))) (fun hPc hDc => va_runIN (As := []) (rest := [.ref q5, .ref o1]) ⟨hx, hb, hml, hown, hts⟩ (kX5_init_1 l dC dI cI c2 cZ q5 H.size) ⟨va_cnB 0 hts gX6_init_X5_init_n20 rfl rfl rfl (hN.1 _ ns_52) (hts (.initialized RX5) hm_X6_init_10) (by decide +kernel) ⟨Nat.le_of_ble_eq_true rfl, Nat.le_of_ble_eq_true rfl⟩, rfl, (hts (.instanceMethod yX5_init) hm_X6_init_26)⟩ (pre_S hPc hK hDc hN) rfl rfl hl.1 rfl (lv_room (Nat.le_of_ble_eq_true rfl)) dX6_init_20 ⟨Nat.le_of_ble_eq_true rfl, Nat.le_of_ble_eq_true rfl⟩) hP hD hS hA [3] [0, 1, 2, 4, 5, 6, 7, 8, 9, 10, 11, 12, 13, 14, 15, 16] [0, 1, 2, 16, 17, 18, 19, 20, 3, 4, 5, 6, 7, 8, 9, 10, 11, 12, 13, 14, 15, 21, 22, 23, 24, 25, 26, 27, 28, 29, 30, 31, 32, 33, 34, 35, 36, 37, 38, 39, 40, 41, 42, 43, 44, 45] rfl rfl (by decide +kernel) (by decide +kernel) (by decide +kernel) (by decide +kernel) (fun _ => rfl) (fun u H locs hq hP hD hS => ?_)
  refine W.widen (k := 45) (n := 4600) (by decide) (by decide) ?_
  obtain ⟨q6, q7, r8, q9, q10, r11, y12, G13, f14, G15⟩ := u
  obtain ⟨y12_h, G13_b⟩ := hq
  have hP : va_P (dC, dI) vwCl (([(o1, .inr (6, [.ref q1, .null, .null, .null, .int 0, .int 0, .int 0, .int 0, .int 0])), (q1, .inr (3, [.ref q2, .int 0])), (q2, .inl (c2, 13, .inr (.inr (.inr (.inr (fun i => if i < 13 then some (r3 i) else none)))))), (q5, .inr (5, [.ref q6, .ref q9, .ref q10, .int 0, .int 0, .int 0])), (q6, .inr (3, [.ref q7, .int y12])), (q7, .inl (c2, 13, .inr (.inr (.inr (.inr (fun i => if i < 13 then some (r8 i) else none)))))), (q9, .inl (cI, 4096, .inl f14)), (q10, .inl (c2, 12, .inr (.inr (.inr (.inr (fun i => if i < 12 then some (r11 i) else none))))))] : va_W) ++ (gr13 r3 cI 12 G4 ++ (gr13 r8 cI 12 G13 ++ (gr12 r11 cI 12 G15 ++ ([] : va_W))))) H := hP
  have hD : va_D A (([(o1, .inr (6, [.ref q1, .null, .null, .null, .int 0, .int 0, .int 0, .int 0, .int 0])), (q1, .inr (3, [.ref q2, .int 0])), (q2, .inl (c2, 13, .inr (.inr (.inr (.inr (fun i => if i < 13 then some (r3 i) else none)))))), (q5, .inr (5, [.ref q6, .ref q9, .ref q10, .int 0, .int 0, .int 0])), (q6, .inr (3, [.ref q7, .int y12])), (q7, .inl (c2, 13, .inr (.inr (.inr (.inr (fun i => if i < 13 then some (r8 i) else none)))))), (q9, .inl (cI, 4096, .inl f14)), (q10, .inl (c2, 12, .inr (.inr (.inr (.inr (fun i => if i < 12 then some (r11 i) else none))))))] : va_W) ++ (gr13 r3 cI 12 G4 ++ (gr13 r8 cI 12 G13 ++ (gr12 r11 cI 12 G15 ++ ([] : va_W))))) := hD
  refine va_putF (D := (dC, dI)) (ci := 6) (v := .ref q5) (ty := .object "HolelessHouse$LeastSearch") (C := RX6) (T := TX6) (N := 9) hx hb hts iw_X6_init_X6 tyX6 tyX6_ok nmX6 hown hK hP hD hS 0 rfl rfl 1 (by decide) (hts (.fieldLink RX6 21 "HolelessHouse$Ordering" "search" "LHolelessHouse$LeastSearch;") hm_X6_init_11) (fun _ h9 => h9) rfl hin rfl (by decide +kernel) rfl rfl (Nat.le_of_ble_eq_true rfl) dX6_init_23 (fun H locs hP hD hS => ?_)
  have hP : va_P (dC, dI) vwCl (([(o1, .inr (6, [.ref q1, .ref q5, .null, .null, .int 0, .int 0, .int 0, .int 0, .int 0])), (q1, .inr (3, [.ref q2, .int 0])), (q2, .inl (c2, 13, .inr (.inr (.inr (.inr (fun i => if i < 13 then some (r3 i) else none)))))), (q5, .inr (5, [.ref q6, .ref q9, .ref q10, .int 0, .int 0, .int 0])), (q6, .inr (3, [.ref q7, .int y12])), (q7, .inl (c2, 13, .inr (.inr (.inr (.inr (fun i => if i < 13 then some (r8 i) else none)))))), (q9, .inl (cI, 4096, .inl f14)), (q10, .inl (c2, 12, .inr (.inr (.inr (.inr (fun i => if i < 12 then some (r11 i) else none))))))] : va_W) ++ (gr13 r3 cI 12 G4 ++ (gr13 r8 cI 12 G13 ++ (gr12 r11 cI 12 G15 ++ ([] : va_W))))) H := hP
  have hD : va_D A (([(o1, .inr (6, [.ref q1, .ref q5, .null, .null, .int 0, .int 0, .int 0, .int 0, .int 0])), (q1, .inr (3, [.ref q2, .int 0])), (q2, .inl (c2, 13, .inr (.inr (.inr (.inr (fun i => if i < 13 then some (r3 i) else none)))))), (q5, .inr (5, [.ref q6, .ref q9, .ref q10, .int 0, .int 0, .int 0])), (q6, .inr (3, [.ref q7, .int y12])), (q7, .inl (c2, 13, .inr (.inr (.inr (.inr (fun i => if i < 13 then some (r8 i) else none)))))), (q9, .inl (cI, 4096, .inl f14)), (q10, .inl (c2, 12, .inr (.inr (.inr (.inr (fun i => if i < 12 then some (r11 i) else none))))))] : va_W) ++ (gr13 r3 cI 12 G4 ++ (gr13 r8 cI 12 G13 ++ (gr12 r11 cI 12 G15 ++ ([] : va_W))))) := hD
  refine lv_aload_n hx hb dX6_init_26 rfl (lv_at hl 0 rfl) ?_
  refine lv_bipush (v := 12) hx hb dX6_init_27 (by decide) ?_
  refine va_newa (atype := .int) (ty := .int) (N' := 12) (a0 := (12, .inl (fun _ => 0))) hx hb (hts (.arrayClass .int) hm_X6_init_12) rfl hK hP hD hS hA (fun _ => rfl) (by decide +kernel) (by decide +kernel) (by decide +kernel) (Nat.le_of_ble_eq_true rfl) (Nat.le_of_ble_eq_true rfl) dX6_init_29 (fun q16 cA H hK1 hP hD hS => ?_)
  refine W.widen (k := 46) (n := 4612) (by decide) (by decide) ?_
  have e9 : cI = cA := K3_int hK1
  subst e9
  obtain ⟨f17, f17_e⟩ : ∃ g : Nat → Int32, g = fun _ => 0 := ⟨_, rfl⟩
  rw [← f17_e] at hP hD
  have f17_b : Bd 12 0 11 f17 := by rw [f17_e]; exact bd_c ik_0 (by decide)
  have hP := hP.sub (ws' := ([(o1, .inr (6, [.ref q1, .ref q5, .null, .null, .int 0, .int 0, .int 0, .int 0, .int 0])), (q1, .inr (3, [.ref q2, .int 0])), (q2, .inl (c2, 13, .inr (.inr (.inr (.inr (fun i => if i < 13 then some (r3 i) else none)))))), (q5, .inr (5, [.ref q6, .ref q9, .ref q10, .int 0, .int 0, .int 0])), (q6, .inr (3, [.ref q7, .int y12])), (q7, .inl (c2, 13, .inr (.inr (.inr (.inr (fun i => if i < 13 then some (r8 i) else none)))))), (q9, .inl (cI, 4096, .inl f14)), (q10, .inl (c2, 12, .inr (.inr (.inr (.inr (fun i => if i < 12 then some (r11 i) else none)))))), (q16, .inl (cI, 12, .inl f17))] : va_W) ++ (gr13 r3 cI 12 G4 ++ (gr13 r8 cI 12 G13 ++ (gr12 r11 cI 12 G15 ++ ([] : va_W))))) [0, 1, 2, 3, 4, 5, 6, 7, 46, 8, 9, 10, 11, 12, 13, 14, 15, 16, 17, 18, 19, 20, 21, 22, 23, 24, 25, 26, 27, 28, 29, 30, 31, 32, 33, 34, 35, 36, 37, 38, 39, 40, 41, 42, 43, 44, 45] rfl
  have hD := hD.sub (ws' := ([(o1, .inr (6, [.ref q1, .ref q5, .null, .null, .int 0, .int 0, .int 0, .int 0, .int 0])), (q1, .inr (3, [.ref q2, .int 0])), (q2, .inl (c2, 13, .inr (.inr (.inr (.inr (fun i => if i < 13 then some (r3 i) else none)))))), (q5, .inr (5, [.ref q6, .ref q9, .ref q10, .int 0, .int 0, .int 0])), (q6, .inr (3, [.ref q7, .int y12])), (q7, .inl (c2, 13, .inr (.inr (.inr (.inr (fun i => if i < 13 then some (r8 i) else none)))))), (q9, .inl (cI, 4096, .inl f14)), (q10, .inl (c2, 12, .inr (.inr (.inr (.inr (fun i => if i < 12 then some (r11 i) else none)))))), (q16, .inl (cI, 12, .inl f17))] : va_W) ++ (gr13 r3 cI 12 G4 ++ (gr13 r8 cI 12 G13 ++ (gr12 r11 cI 12 G15 ++ ([] : va_W))))) [0, 1, 2, 3, 4, 5, 6, 7, 46, 8, 9, 10, 11, 12, 13, 14, 15, 16, 17, 18, 19, 20, 21, 22, 23, 24, 25, 26, 27, 28, 29, 30, 31, 32, 33, 34, 35, 36, 37, 38, 39, 40, 41, 42, 43, 44, 45] (by decide) rfl
  refine va_putF (D := (dC, dI)) (ci := 6) (v := .ref q16) (ty := .array .int) (C := RX6) (T := TX6) (N := 9) hx hb hts iw_X6_init_X6 tyX6 tyX6_ok nmX6 hown hK hP hD hS 0 rfl rfl 2 (by decide) (hts (.fieldLink RX6 25 "HolelessHouse$Ordering" "places" "[I") hm_X6_init_13) (fun _ h9 => h9) rfl hin rfl (by decide +kernel) rfl rfl (Nat.le_of_ble_eq_true rfl) dX6_init_31 (fun H locs hP hD hS => ?_)
  have hP : va_P (dC, dI) vwCl (([(o1, .inr (6, [.ref q1, .ref q5, .ref q16, .null, .int 0, .int 0, .int 0, .int 0, .int 0])), (q1, .inr (3, [.ref q2, .int 0])), (q2, .inl (c2, 13, .inr (.inr (.inr (.inr (fun i => if i < 13 then some (r3 i) else none)))))), (q5, .inr (5, [.ref q6, .ref q9, .ref q10, .int 0, .int 0, .int 0])), (q6, .inr (3, [.ref q7, .int y12])), (q7, .inl (c2, 13, .inr (.inr (.inr (.inr (fun i => if i < 13 then some (r8 i) else none)))))), (q9, .inl (cI, 4096, .inl f14)), (q10, .inl (c2, 12, .inr (.inr (.inr (.inr (fun i => if i < 12 then some (r11 i) else none)))))), (q16, .inl (cI, 12, .inl f17))] : va_W) ++ (gr13 r3 cI 12 G4 ++ (gr13 r8 cI 12 G13 ++ (gr12 r11 cI 12 G15 ++ ([] : va_W))))) H := hP
  have hD : va_D A (([(o1, .inr (6, [.ref q1, .ref q5, .ref q16, .null, .int 0, .int 0, .int 0, .int 0, .int 0])), (q1, .inr (3, [.ref q2, .int 0])), (q2, .inl (c2, 13, .inr (.inr (.inr (.inr (fun i => if i < 13 then some (r3 i) else none)))))), (q5, .inr (5, [.ref q6, .ref q9, .ref q10, .int 0, .int 0, .int 0])), (q6, .inr (3, [.ref q7, .int y12])), (q7, .inl (c2, 13, .inr (.inr (.inr (.inr (fun i => if i < 13 then some (r8 i) else none)))))), (q9, .inl (cI, 4096, .inl f14)), (q10, .inl (c2, 12, .inr (.inr (.inr (.inr (fun i => if i < 12 then some (r11 i) else none)))))), (q16, .inl (cI, 12, .inl f17))] : va_W) ++ (gr13 r3 cI 12 G4 ++ (gr13 r8 cI 12 G13 ++ (gr12 r11 cI 12 G15 ++ ([] : va_W))))) := hD
  refine lv_aload_n hx hb dX6_init_34 rfl (lv_at hl 0 rfl) ?_
  refine lv_bipush (v := 12) hx hb dX6_init_35 (by decide) ?_
  refine va_newa (atype := .int) (ty := .int) (N' := 12) (a0 := (12, .inl (fun _ => 0))) hx hb (hts (.arrayClass .int) hm_X6_init_12) rfl hK hP hD hS hA (fun _ => rfl) (by decide +kernel) (by decide +kernel) (by decide +kernel) (Nat.le_of_ble_eq_true rfl) (Nat.le_of_ble_eq_true rfl) dX6_init_37 (fun q18 cA H hK1 hP hD hS => ?_)
  refine W.widen (k := 47) (n := 4624) (by decide) (by decide) ?_
  have e9 : cI = cA := K3_int hK1
  subst e9
  obtain ⟨f19, f19_e⟩ : ∃ g : Nat → Int32, g = fun _ => 0 := ⟨_, rfl⟩
  rw [← f19_e] at hP hD
  have f19_b : Bd 12 0 11 f19 := by rw [f19_e]; exact bd_c ik_0 (by decide)
  have hP := hP.sub (ws' := ([(o1, .inr (6, [.ref q1, .ref q5, .ref q16, .null, .int 0, .int 0, .int 0, .int 0, .int 0])), (q1, .inr (3, [.ref q2, .int 0])), (q2, .inl (c2, 13, .inr (.inr (.inr (.inr (fun i => if i < 13 then some (r3 i) else none)))))), (q5, .inr (5, [.ref q6, .ref q9, .ref q10, .int 0, .int 0, .int 0])), (q6, .inr (3, [.ref q7, .int y12])), (q7, .inl (c2, 13, .inr (.inr (.inr (.inr (fun i => if i < 13 then some (r8 i) else none)))))), (q9, .inl (cI, 4096, .inl f14)), (q10, .inl (c2, 12, .inr (.inr (.inr (.inr (fun i => if i < 12 then some (r11 i) else none)))))), (q16, .inl (cI, 12, .inl f17)), (q18, .inl (cI, 12, .inl f19))] : va_W) ++ (gr13 r3 cI 12 G4 ++ (gr13 r8 cI 12 G13 ++ (gr12 r11 cI 12 G15 ++ ([] : va_W))))) [0, 1, 2, 3, 4, 5, 6, 7, 8, 47, 9, 10, 11, 12, 13, 14, 15, 16, 17, 18, 19, 20, 21, 22, 23, 24, 25, 26, 27, 28, 29, 30, 31, 32, 33, 34, 35, 36, 37, 38, 39, 40, 41, 42, 43, 44, 45, 46] rfl
  have hD := hD.sub (ws' := ([(o1, .inr (6, [.ref q1, .ref q5, .ref q16, .null, .int 0, .int 0, .int 0, .int 0, .int 0])), (q1, .inr (3, [.ref q2, .int 0])), (q2, .inl (c2, 13, .inr (.inr (.inr (.inr (fun i => if i < 13 then some (r3 i) else none)))))), (q5, .inr (5, [.ref q6, .ref q9, .ref q10, .int 0, .int 0, .int 0])), (q6, .inr (3, [.ref q7, .int y12])), (q7, .inl (c2, 13, .inr (.inr (.inr (.inr (fun i => if i < 13 then some (r8 i) else none)))))), (q9, .inl (cI, 4096, .inl f14)), (q10, .inl (c2, 12, .inr (.inr (.inr (.inr (fun i => if i < 12 then some (r11 i) else none)))))), (q16, .inl (cI, 12, .inl f17)), (q18, .inl (cI, 12, .inl f19))] : va_W) ++ (gr13 r3 cI 12 G4 ++ (gr13 r8 cI 12 G13 ++ (gr12 r11 cI 12 G15 ++ ([] : va_W))))) [0, 1, 2, 3, 4, 5, 6, 7, 8, 47, 9, 10, 11, 12, 13, 14, 15, 16, 17, 18, 19, 20, 21, 22, 23, 24, 25, 26, 27, 28, 29, 30, 31, 32, 33, 34, 35, 36, 37, 38, 39, 40, 41, 42, 43, 44, 45, 46] (by decide) rfl
  refine va_putF (D := (dC, dI)) (ci := 6) (v := .ref q18) (ty := .array .int) (C := RX6) (T := TX6) (N := 9) hx hb hts iw_X6_init_X6 tyX6 tyX6_ok nmX6 hown hK hP hD hS 0 rfl rfl 3 (by decide) (hts (.fieldLink RX6 29 "HolelessHouse$Ordering" "drafts" "[I") hm_X6_init_14) (fun _ h9 => h9) rfl hin rfl (by decide +kernel) rfl rfl (Nat.le_of_ble_eq_true rfl) dX6_init_39 (fun H locs hP hD hS => ?_)
  have hP : va_P (dC, dI) vwCl (([(o1, .inr (6, [.ref q1, .ref q5, .ref q16, .ref q18, .int 0, .int 0, .int 0, .int 0, .int 0])), (q1, .inr (3, [.ref q2, .int 0])), (q2, .inl (c2, 13, .inr (.inr (.inr (.inr (fun i => if i < 13 then some (r3 i) else none)))))), (q5, .inr (5, [.ref q6, .ref q9, .ref q10, .int 0, .int 0, .int 0])), (q6, .inr (3, [.ref q7, .int y12])), (q7, .inl (c2, 13, .inr (.inr (.inr (.inr (fun i => if i < 13 then some (r8 i) else none)))))), (q9, .inl (cI, 4096, .inl f14)), (q10, .inl (c2, 12, .inr (.inr (.inr (.inr (fun i => if i < 12 then some (r11 i) else none)))))), (q16, .inl (cI, 12, .inl f17)), (q18, .inl (cI, 12, .inl f19))] : va_W) ++ (gr13 r3 cI 12 G4 ++ (gr13 r8 cI 12 G13 ++ (gr12 r11 cI 12 G15 ++ ([] : va_W))))) H := hP
  have hD : va_D A (([(o1, .inr (6, [.ref q1, .ref q5, .ref q16, .ref q18, .int 0, .int 0, .int 0, .int 0, .int 0])), (q1, .inr (3, [.ref q2, .int 0])), (q2, .inl (c2, 13, .inr (.inr (.inr (.inr (fun i => if i < 13 then some (r3 i) else none)))))), (q5, .inr (5, [.ref q6, .ref q9, .ref q10, .int 0, .int 0, .int 0])), (q6, .inr (3, [.ref q7, .int y12])), (q7, .inl (c2, 13, .inr (.inr (.inr (.inr (fun i => if i < 13 then some (r8 i) else none)))))), (q9, .inl (cI, 4096, .inl f14)), (q10, .inl (c2, 12, .inr (.inr (.inr (.inr (fun i => if i < 12 then some (r11 i) else none)))))), (q16, .inl (cI, 12, .inl f17)), (q18, .inl (cI, 12, .inl f19))] : va_W) ++ (gr13 r3 cI 12 G4 ++ (gr13 r8 cI 12 G13 ++ (gr12 r11 cI 12 G15 ++ ([] : va_W))))) := hD
  refine lv_aload_n hx hb dX6_init_42 rfl (lv_at hl 0 rfl) ?_
  refine lv_iconst (v := 0) hx hb dX6_init_43 (by decide) ?_
  refine va_put (D := (dC, dI)) (ci := 6) (v := .int 0) (ty := .int) (C := RX6) (T := TX6) (N := 9) hx hb hts iw_X6_init_X6 tyX6 tyX6_ok nmX6 hown hK hP hD hS 0 rfl rfl 4 (by decide) (hts (.fieldLink RX6 32 "HolelessHouse$Ordering" "draftSize" "I") hm_X6_init_15) (fun _ h9 => h9) rfl (by decide +kernel) rfl rfl (Nat.le_of_ble_eq_true rfl) dX6_init_44 (fun H locs hP hD hS => ?_)
  have hP : va_P (dC, dI) vwCl (([(o1, .inr (6, [.ref q1, .ref q5, .ref q16, .ref q18, .int 0, .int 0, .int 0, .int 0, .int 0])), (q1, .inr (3, [.ref q2, .int 0])), (q2, .inl (c2, 13, .inr (.inr (.inr (.inr (fun i => if i < 13 then some (r3 i) else none)))))), (q5, .inr (5, [.ref q6, .ref q9, .ref q10, .int 0, .int 0, .int 0])), (q6, .inr (3, [.ref q7, .int y12])), (q7, .inl (c2, 13, .inr (.inr (.inr (.inr (fun i => if i < 13 then some (r8 i) else none)))))), (q9, .inl (cI, 4096, .inl f14)), (q10, .inl (c2, 12, .inr (.inr (.inr (.inr (fun i => if i < 12 then some (r11 i) else none)))))), (q16, .inl (cI, 12, .inl f17)), (q18, .inl (cI, 12, .inl f19))] : va_W) ++ (gr13 r3 cI 12 G4 ++ (gr13 r8 cI 12 G13 ++ (gr12 r11 cI 12 G15 ++ ([] : va_W))))) H := hP
  have hD : va_D A (([(o1, .inr (6, [.ref q1, .ref q5, .ref q16, .ref q18, .int 0, .int 0, .int 0, .int 0, .int 0])), (q1, .inr (3, [.ref q2, .int 0])), (q2, .inl (c2, 13, .inr (.inr (.inr (.inr (fun i => if i < 13 then some (r3 i) else none)))))), (q5, .inr (5, [.ref q6, .ref q9, .ref q10, .int 0, .int 0, .int 0])), (q6, .inr (3, [.ref q7, .int y12])), (q7, .inl (c2, 13, .inr (.inr (.inr (.inr (fun i => if i < 13 then some (r8 i) else none)))))), (q9, .inl (cI, 4096, .inl f14)), (q10, .inl (c2, 12, .inr (.inr (.inr (.inr (fun i => if i < 12 then some (r11 i) else none)))))), (q16, .inl (cI, 12, .inl f17)), (q18, .inl (cI, 12, .inl f19))] : va_W) ++ (gr13 r3 cI 12 G4 ++ (gr13 r8 cI 12 G13 ++ (gr12 r11 cI 12 G15 ++ ([] : va_W))))) := hD
  refine lv_aload_n hx hb dX6_init_47 rfl (lv_at hl 0 rfl) ?_
  refine lv_iconst (v := 0) hx hb dX6_init_48 (by decide) ?_
  refine va_put (D := (dC, dI)) (ci := 6) (v := .int 0) (ty := .int) (C := RX6) (T := TX6) (N := 9) hx hb hts iw_X6_init_X6 tyX6 tyX6_ok nmX6 hown hK hP hD hS 0 rfl rfl 5 (by decide) (hts (.fieldLink RX6 36 "HolelessHouse$Ordering" "size" "I") hm_X6_init_16) (fun _ h9 => h9) rfl (by decide +kernel) rfl rfl (Nat.le_of_ble_eq_true rfl) dX6_init_49 (fun H locs hP hD hS => ?_)
  have hP : va_P (dC, dI) vwCl (([(o1, .inr (6, [.ref q1, .ref q5, .ref q16, .ref q18, .int 0, .int 0, .int 0, .int 0, .int 0])), (q1, .inr (3, [.ref q2, .int 0])), (q2, .inl (c2, 13, .inr (.inr (.inr (.inr (fun i => if i < 13 then some (r3 i) else none)))))), (q5, .inr (5, [.ref q6, .ref q9, .ref q10, .int 0, .int 0, .int 0])), (q6, .inr (3, [.ref q7, .int y12])), (q7, .inl (c2, 13, .inr (.inr (.inr (.inr (fun i => if i < 13 then some (r8 i) else none)))))), (q9, .inl (cI, 4096, .inl f14)), (q10, .inl (c2, 12, .inr (.inr (.inr (.inr (fun i => if i < 12 then some (r11 i) else none)))))), (q16, .inl (cI, 12, .inl f17)), (q18, .inl (cI, 12, .inl f19))] : va_W) ++ (gr13 r3 cI 12 G4 ++ (gr13 r8 cI 12 G13 ++ (gr12 r11 cI 12 G15 ++ ([] : va_W))))) H := hP
  have hD : va_D A (([(o1, .inr (6, [.ref q1, .ref q5, .ref q16, .ref q18, .int 0, .int 0, .int 0, .int 0, .int 0])), (q1, .inr (3, [.ref q2, .int 0])), (q2, .inl (c2, 13, .inr (.inr (.inr (.inr (fun i => if i < 13 then some (r3 i) else none)))))), (q5, .inr (5, [.ref q6, .ref q9, .ref q10, .int 0, .int 0, .int 0])), (q6, .inr (3, [.ref q7, .int y12])), (q7, .inl (c2, 13, .inr (.inr (.inr (.inr (fun i => if i < 13 then some (r8 i) else none)))))), (q9, .inl (cI, 4096, .inl f14)), (q10, .inl (c2, 12, .inr (.inr (.inr (.inr (fun i => if i < 12 then some (r11 i) else none)))))), (q16, .inl (cI, 12, .inl f17)), (q18, .inl (cI, 12, .inl f19))] : va_W) ++ (gr13 r3 cI 12 G4 ++ (gr13 r8 cI 12 G13 ++ (gr12 r11 cI 12 G15 ++ ([] : va_W))))) := hD
  refine lv_aload_n hx hb dX6_init_52 rfl (lv_at hl 0 rfl) ?_
  refine lv_iconst (v := 0) hx hb dX6_init_53 (by decide) ?_
  refine va_put (D := (dC, dI)) (ci := 6) (v := .int 0) (ty := .boolean) (C := RX6) (T := TX6) (N := 9) hx hb hts iw_X6_init_X6 tyX6 tyX6_ok nmX6 hown hK hP hD hS 0 rfl rfl 6 (by decide) (hts (.fieldLink RX6 39 "HolelessHouse$Ordering" "there" "Z") hm_X6_init_17) (fun _ h9 => h9) rfl (by decide +kernel) rfl rfl (Nat.le_of_ble_eq_true rfl) dX6_init_54 (fun H locs hP hD hS => ?_)
  have hP : va_P (dC, dI) vwCl (([(o1, .inr (6, [.ref q1, .ref q5, .ref q16, .ref q18, .int 0, .int 0, .int 0, .int 0, .int 0])), (q1, .inr (3, [.ref q2, .int 0])), (q2, .inl (c2, 13, .inr (.inr (.inr (.inr (fun i => if i < 13 then some (r3 i) else none)))))), (q5, .inr (5, [.ref q6, .ref q9, .ref q10, .int 0, .int 0, .int 0])), (q6, .inr (3, [.ref q7, .int y12])), (q7, .inl (c2, 13, .inr (.inr (.inr (.inr (fun i => if i < 13 then some (r8 i) else none)))))), (q9, .inl (cI, 4096, .inl f14)), (q10, .inl (c2, 12, .inr (.inr (.inr (.inr (fun i => if i < 12 then some (r11 i) else none)))))), (q16, .inl (cI, 12, .inl f17)), (q18, .inl (cI, 12, .inl f19))] : va_W) ++ (gr13 r3 cI 12 G4 ++ (gr13 r8 cI 12 G13 ++ (gr12 r11 cI 12 G15 ++ ([] : va_W))))) H := hP
  have hD : va_D A (([(o1, .inr (6, [.ref q1, .ref q5, .ref q16, .ref q18, .int 0, .int 0, .int 0, .int 0, .int 0])), (q1, .inr (3, [.ref q2, .int 0])), (q2, .inl (c2, 13, .inr (.inr (.inr (.inr (fun i => if i < 13 then some (r3 i) else none)))))), (q5, .inr (5, [.ref q6, .ref q9, .ref q10, .int 0, .int 0, .int 0])), (q6, .inr (3, [.ref q7, .int y12])), (q7, .inl (c2, 13, .inr (.inr (.inr (.inr (fun i => if i < 13 then some (r8 i) else none)))))), (q9, .inl (cI, 4096, .inl f14)), (q10, .inl (c2, 12, .inr (.inr (.inr (.inr (fun i => if i < 12 then some (r11 i) else none)))))), (q16, .inl (cI, 12, .inl f17)), (q18, .inl (cI, 12, .inl f19))] : va_W) ++ (gr13 r3 cI 12 G4 ++ (gr13 r8 cI 12 G13 ++ (gr12 r11 cI 12 G15 ++ ([] : va_W))))) := hD
  refine lv_aload_n hx hb dX6_init_57 rfl (lv_at hl 0 rfl) ?_
  refine lv_iconst (v := 0) hx hb dX6_init_58 (by decide) ?_
  refine va_put (D := (dC, dI)) (ci := 6) (v := .int 0) (ty := .int) (C := RX6) (T := TX6) (N := 9) hx hb hts iw_X6_init_X6 tyX6 tyX6_ok nmX6 hown hK hP hD hS 0 rfl rfl 7 (by decide) (hts (.fieldLink RX6 43 "HolelessHouse$Ordering" "filled" "I") hm_X6_init_18) (fun _ h9 => h9) rfl (by decide +kernel) rfl rfl (Nat.le_of_ble_eq_true rfl) dX6_init_59 (fun H locs hP hD hS => ?_)
  have hP : va_P (dC, dI) vwCl (([(o1, .inr (6, [.ref q1, .ref q5, .ref q16, .ref q18, .int 0, .int 0, .int 0, .int 0, .int 0])), (q1, .inr (3, [.ref q2, .int 0])), (q2, .inl (c2, 13, .inr (.inr (.inr (.inr (fun i => if i < 13 then some (r3 i) else none)))))), (q5, .inr (5, [.ref q6, .ref q9, .ref q10, .int 0, .int 0, .int 0])), (q6, .inr (3, [.ref q7, .int y12])), (q7, .inl (c2, 13, .inr (.inr (.inr (.inr (fun i => if i < 13 then some (r8 i) else none)))))), (q9, .inl (cI, 4096, .inl f14)), (q10, .inl (c2, 12, .inr (.inr (.inr (.inr (fun i => if i < 12 then some (r11 i) else none)))))), (q16, .inl (cI, 12, .inl f17)), (q18, .inl (cI, 12, .inl f19))] : va_W) ++ (gr13 r3 cI 12 G4 ++ (gr13 r8 cI 12 G13 ++ (gr12 r11 cI 12 G15 ++ ([] : va_W))))) H := hP
  have hD : va_D A (([(o1, .inr (6, [.ref q1, .ref q5, .ref q16, .ref q18, .int 0, .int 0, .int 0, .int 0, .int 0])), (q1, .inr (3, [.ref q2, .int 0])), (q2, .inl (c2, 13, .inr (.inr (.inr (.inr (fun i => if i < 13 then some (r3 i) else none)))))), (q5, .inr (5, [.ref q6, .ref q9, .ref q10, .int 0, .int 0, .int 0])), (q6, .inr (3, [.ref q7, .int y12])), (q7, .inl (c2, 13, .inr (.inr (.inr (.inr (fun i => if i < 13 then some (r8 i) else none)))))), (q9, .inl (cI, 4096, .inl f14)), (q10, .inl (c2, 12, .inr (.inr (.inr (.inr (fun i => if i < 12 then some (r11 i) else none)))))), (q16, .inl (cI, 12, .inl f17)), (q18, .inl (cI, 12, .inl f19))] : va_W) ++ (gr13 r3 cI 12 G4 ++ (gr13 r8 cI 12 G13 ++ (gr12 r11 cI 12 G15 ++ ([] : va_W))))) := hD
  refine lv_aload_n hx hb dX6_init_62 rfl (lv_at hl 0 rfl) ?_
  refine lv_iconst (v := 0) hx hb dX6_init_63 (by decide) ?_
  refine va_put (D := (dC, dI)) (ci := 6) (v := .int 0) (ty := .int) (C := RX6) (T := TX6) (N := 9) hx hb hts iw_X6_init_X6 tyX6 tyX6_ok nmX6 hown hK hP hD hS 0 rfl rfl 8 (by decide) (hts (.fieldLink RX6 46 "HolelessHouse$Ordering" "width" "I") hm_X6_init_19) (fun _ h9 => h9) rfl (by decide +kernel) rfl rfl (Nat.le_of_ble_eq_true rfl) dX6_init_64 (fun H locs hP hD hS => ?_)
  have hP : va_P (dC, dI) vwCl (([(o1, .inr (6, [.ref q1, .ref q5, .ref q16, .ref q18, .int 0, .int 0, .int 0, .int 0, .int 0])), (q1, .inr (3, [.ref q2, .int 0])), (q2, .inl (c2, 13, .inr (.inr (.inr (.inr (fun i => if i < 13 then some (r3 i) else none)))))), (q5, .inr (5, [.ref q6, .ref q9, .ref q10, .int 0, .int 0, .int 0])), (q6, .inr (3, [.ref q7, .int y12])), (q7, .inl (c2, 13, .inr (.inr (.inr (.inr (fun i => if i < 13 then some (r8 i) else none)))))), (q9, .inl (cI, 4096, .inl f14)), (q10, .inl (c2, 12, .inr (.inr (.inr (.inr (fun i => if i < 12 then some (r11 i) else none)))))), (q16, .inl (cI, 12, .inl f17)), (q18, .inl (cI, 12, .inl f19))] : va_W) ++ (gr13 r3 cI 12 G4 ++ (gr13 r8 cI 12 G13 ++ (gr12 r11 cI 12 G15 ++ ([] : va_W))))) H := hP
  have hD : va_D A (([(o1, .inr (6, [.ref q1, .ref q5, .ref q16, .ref q18, .int 0, .int 0, .int 0, .int 0, .int 0])), (q1, .inr (3, [.ref q2, .int 0])), (q2, .inl (c2, 13, .inr (.inr (.inr (.inr (fun i => if i < 13 then some (r3 i) else none)))))), (q5, .inr (5, [.ref q6, .ref q9, .ref q10, .int 0, .int 0, .int 0])), (q6, .inr (3, [.ref q7, .int y12])), (q7, .inl (c2, 13, .inr (.inr (.inr (.inr (fun i => if i < 13 then some (r8 i) else none)))))), (q9, .inl (cI, 4096, .inl f14)), (q10, .inl (c2, 12, .inr (.inr (.inr (.inr (fun i => if i < 12 then some (r11 i) else none)))))), (q16, .inl (cI, 12, .inl f17)), (q18, .inl (cI, 12, .inl f19))] : va_W) ++ (gr13 r3 cI 12 G4 ++ (gr13 r8 cI 12 G13 ++ (gr12 r11 cI 12 G15 ++ ([] : va_W))))) := hD
  rw [hQ]
  exact W.vret hx hb hr (fun t ht hW => ⟨⟨(q1, q2, r3, q5, q6, q7, r8, q9, q10, r11, q16, q18, 0, G4, 0, 0, 0, y12, G13, f14, G15, f17, f19), rfl, ⟨(iv_w ik_0 (by decide)), G4_b, (iv_w ik_0 (by decide)), (iv_w ik_0 (by decide)), y12_h, G13_b, f17_b, f19_b⟩, by rw [ht]; exact hP, va_K.moved hW.alike hK, hD⟩, hS.F ht⟩) hS.2.2 dX6_init_67
theorem iw_X9_init_X3 : ∀ w ∈ wsX30, w ∈ wsX9_init := fun _ h => List.mem_cons.mpr (Or.inr (List.mem_append.mpr (Or.inl (List.mem_append.mpr (Or.inr h)))))
theorem iw_X9_init_X9 : ∀ w ∈ wsX90, w ∈ wsX9_init := fun _ h => List.mem_cons.mpr (Or.inr (List.mem_append.mpr (Or.inr h)))
set_option maxHeartbeats 4000000 in
set_option maxRecDepth 100000 in
theorem kX9_init_1 (l : Launch) (dC : Nat → ClassId) (dI : Nat → Nat → Nat) (cI c2 cZ : ClassId) (o1 : Nat) (sz : Nat) : Met l yX9_init wsX9_init ({ frames := 2, cells := 16, slots := 183, locals := 32 }) (va_Pc [.ref o1] (wPre (dC, dI) [(cI, .int), (c2, .array .int), (cZ, .boolean)] ([(o1, .inr (9, [.null, .null, .int 0, .int 0]))]) sz)) (va_Qv (fun (u : Int32 × Nat × Nat × (Nat → Nat) × Nat × Int32 × (Nat → Nat → Int32) × (Nat → Int32)) => Iv 0 12 u.2.2.2.2.2.1 ∧ Bg 13 12 0 4095 u.2.2.2.2.2.2.1 ∧ Bd 12 0 11 u.2.2.2.2.2.2.2) (fun u t => wPost (dC, dI) [(cI, .int), (c2, .array .int), (cZ, .boolean)] (va_A ([(o1, .inr (9, [.null, .null, .int 0, .int 0]))]) sz) (([(o1, .inr (9, [.ref u.2.1, .ref u.2.2.2.2.1, .int 0, .int u.1])), (u.2.1, .inr (3, [.ref u.2.2.1, .int u.2.2.2.2.2.1])), (u.2.2.1, .inl (c2, 13, .inr (.inr (.inr (.inr (fun i => if i < 13 then some (u.2.2.2.1 i) else none)))))), (u.2.2.2.2.1, .inl (cI, 12, .inl u.2.2.2.2.2.2.2))] : va_W) ++ (gr13 u.2.2.2.1 cI 12 u.2.2.2.2.2.2.1 ++ ([] : va_W))) t) (va_A ([(o1, .inr (9, [.null, .null, .int 0, .int 0]))]) sz)) 16 183 (va_A ([(o1, .inr (9, [.null, .null, .int 0, .int 0]))]) sz) := by
  refine Met.ofW (cc := cX9_init) (maxL := 1) (ret := none) (by decide) rfl ?_
  intro p e s m args below meth c s₁ B hml hv
  obtain ⟨rfl, hsz, hP, hK, hD0, hN⟩ := hv
  have hx := B.exec
  have hb := B.bytes
  have hr := B.returns
  have hts := atoms_spec (ws := wsX9_init) B.pre
  have hown : s.vm.findClass RX9 = some m.cls := findClass_of_methodNamed B.named
  have hlocks := B.notSynchronized
  have hin : meth.name = "<init>" := (name_of_methodNamed B.named B.method).1
  subst hsz
  have hD := hD0.self (sz := s.heap.size)
  generalize hAe : va_A ([(o1, .inr (9, [.null, .null, .int 0, .int 0]))]) s.heap.size = A at hD ⊢
  have hA : ∀ q : Nat, s.heap.size ≤ q → A q := fun q h => by rw [← hAe]; exact Or.inr h
  have hS : va_S A s.heap s.heap [] := va_S.rf
  have hP : va_P (dC, dI) vwCl ([(o1, .inr (9, [.null, .null, .int 0, .int 0]))]) s.heap := hP
  have hl := lv_entry ([.ref o1]) (n := 1) (Nat.le_of_ble_eq_true rfl)
  rw [lg_entry_eq]
  generalize (lg_sl ([.ref o1]) ++ List.replicate (1 - (lg_sl ([.ref o1])).length) Slot.unset).toArray = ls at hl ⊢
  have hl : lv_has ls 1 [(0, .ref o1)] := hl
  refine gen_Q (fun Q hQ => ?_)
  refine lv_aload_n hx hb dX9_init_0 rfl (lv_at hl 0 rfl) ?_
  refine W.objInit hx hb hown (hts (.methodLink RX9 3 objectInit) hm_X9_init_1) (hts (.instanceMethod objectInit) hm_X9_init_2) (hts (.code objectInit ⟨#[0xb1]⟩ 1 none) hm_X9_init_3) rfl (by rw [hml]; exact hl.1) rfl dX9_init_1 (Nat.le_of_ble_eq_true rfl) (Nat.le_of_ble_eq_true rfl) ?_
  refine W.eq (g2 := F0 m 4 ls []) rfl ?_
  refine lv_aload_n hx hb dX9_init_4 rfl (lv_at hl 0 rfl) ?_
  refine va_new (ci := 3) (fs := [.null, .int 0]) (C := RX3) (T := TX3) (N := 2) hx hb hts iw_X9_init_X3 tyX3 tyX3_ok hown (hts (.classLink RX9 9 RX3) hm_X9_init_4) (hts (.instantiable RX3 2) hm_X9_init_5) (hts (.initialized RX3) hm_X9_init_6) hK hP hD hS hA rfl (fun j hj => by rcases (show j = 0 ∨ j = 1 by omega) with rfl | rfl <;> rfl) (Nat.le_of_ble_eq_true rfl) (Nat.le_of_ble_eq_true rfl) dX9_init_5 (fun q1 H hP hD hS => ?_)
  refine W.widen (k := 1) (n := 2) (by decide) (by decide) ?_
  have hP : va_P (dC, dI) vwCl ([(o1, .inr (9, [.null, .null, .int 0, .int 0])), (q1, .inr (3, [.null, .int 0]))]) H := hP
  have hD : va_D A ([(o1, .inr (9, [.null, .null, .int 0, .int 0])), (q1, .inr (3, [.null, .int 0]))]) := hD
  refine lv_dup hx hb dX9_init_8 rfl ?_
  refine kc_v (D := (dC, dI)) (S := Nat × (Nat → Nat) × (Nat → Nat → Int32)) (wc := [(q1, .inr (3, [.null, .int 0]))]) (wr := [(o1, .inr (9, [.null, .null, .int 0, .int 0]))]) (w1 := fun u => ([(q1, .inr (3, [.ref u.1, .int 0])), (u.1, .inl (c2, 13, .inr (.inr (.inr (.inr (fun i => if i < 13 then some (u.2.1 i) else none))))))] : va_W) ++ (gr13 u.2.1 cI 12 u.2.2 ++ ([] : va_W))) (wn := fun u => ([(o1, .inr (9, [.null, .null, .int 0, .int 0])), (q1, .inr (3, [.ref u.1, .int 0])), (u.1, .inl (c2, 13, .inr (.inr (.inr (.inr (fun i => if i < 13 then some (u.2.1 i) else none))))))] : va_W) ++ (gr13 u.2.1 cI 12 u.2.2 ++ ([] : va_W))) (fun hPc hDc => va_runIN (As := []) (rest := [.ref q1, .ref o1]) ⟨hx, hb, hml, hown, hts⟩ (kX3_init_1 l dC dI cI c2 cZ q1 H.size) ⟨va_cnB 0 hts gX9_init_X3_init_n11 rfl rfl rfl (hN.1 _ ns_55) (hts (.initialized RX3) hm_X9_init_6) (by decide +kernel) ⟨Nat.le_of_ble_eq_true rfl, Nat.le_of_ble_eq_true rfl⟩, rfl, (hts (.instanceMethod yX3_init) hm_X9_init_12)⟩ (pre_S hPc hK hDc hN) rfl rfl hl.1 rfl (lv_room (Nat.le_of_ble_eq_true rfl)) dX9_init_9 ⟨Nat.le_of_ble_eq_true rfl, Nat.le_of_ble_eq_true rfl⟩) hP hD hS hA [1] [0] [0, 1, 2, 3, 4, 5, 6, 7, 8, 9, 10, 11, 12, 13, 14, 15] rfl rfl (by decide +kernel) (by decide +kernel) (by decide +kernel) (by decide +kernel) (fun _ => rfl) (fun u H locs hq hP hD hS => ?_)
  refine W.widen (k := 15) (n := 171) (by decide) (by decide) ?_
  obtain ⟨q2, r3, G4⟩ := u
  have G4_b := hq
  have hP : va_P (dC, dI) vwCl (([(o1, .inr (9, [.null, .null, .int 0, .int 0])), (q1, .inr (3, [.ref q2, .int 0])), (q2, .inl (c2, 13, .inr (.inr (.inr (.inr (fun i => if i < 13 then some (r3 i) else none))))))] : va_W) ++ (gr13 r3 cI 12 G4 ++ ([] : va_W))) H := hP
  have hD : va_D A (([(o1, .inr (9, [.null, .null, .int 0, .int 0])), (q1, .inr (3, [.ref q2, .int 0])), (q2, .inl (c2, 13, .inr (.inr (.inr (.inr (fun i => if i < 13 then some (r3 i) else none))))))] : va_W) ++ (gr13 r3 cI 12 G4 ++ ([] : va_W))) := hD
  refine va_putF (D := (dC, dI)) (ci := 9) (v := .ref q1) (ty := .object "HolelessHouse$Going") (C := RX9) (T := TX9) (N := 4) hx hb hts iw_X9_init_X9 tyX9 tyX9_ok nmX9 hown hK hP hD hS 0 rfl rfl 0 (by decide) (hts (.fieldLink RX9 12 "HolelessHouse$Ring" "going" "LHolelessHouse$Going;") hm_X9_init_7) (fun _ h9 => h9) rfl hin rfl (by decide +kernel) rfl rfl (Nat.le_of_ble_eq_true rfl) dX9_init_12 (fun H locs hP hD hS => ?_)
  have hP : va_P (dC, dI) vwCl (([(o1, .inr (9, [.ref q1, .null, .int 0, .int 0])), (q1, .inr (3, [.ref q2, .int 0])), (q2, .inl (c2, 13, .inr (.inr (.inr (.inr (fun i => if i < 13 then some (r3 i) else none))))))] : va_W) ++ (gr13 r3 cI 12 G4 ++ ([] : va_W))) H := hP
  have hD : va_D A (([(o1, .inr (9, [.ref q1, .null, .int 0, .int 0])), (q1, .inr (3, [.ref q2, .int 0])), (q2, .inl (c2, 13, .inr (.inr (.inr (.inr (fun i => if i < 13 then some (r3 i) else none))))))] : va_W) ++ (gr13 r3 cI 12 G4 ++ ([] : va_W))) := hD
  refine lv_aload_n hx hb dX9_init_15 rfl (lv_at hl 0 rfl) ?_
  refine lv_bipush (v := 12) hx hb dX9_init_16 (by decide) ?_
  refine va_newa (atype := .int) (ty := .int) (N' := 12) (a0 := (12, .inl (fun _ => 0))) hx hb (hts (.arrayClass .int) hm_X9_init_8) rfl hK hP hD hS hA (fun _ => rfl) (by decide +kernel) (by decide +kernel) (by decide +kernel) (Nat.le_of_ble_eq_true rfl) (Nat.le_of_ble_eq_true rfl) dX9_init_18 (fun q5 cA H hK1 hP hD hS => ?_)
  refine W.widen (k := 16) (n := 183) (by decide) (by decide) ?_
  have e9 : cI = cA := K3_int hK1
  subst e9
  obtain ⟨f6, f6_e⟩ : ∃ g : Nat → Int32, g = fun _ => 0 := ⟨_, rfl⟩
  rw [← f6_e] at hP hD
  have f6_b : Bd 12 0 11 f6 := by rw [f6_e]; exact bd_c ik_0 (by decide)
  have hP := hP.sub (ws' := ([(o1, .inr (9, [.ref q1, .null, .int 0, .int 0])), (q1, .inr (3, [.ref q2, .int 0])), (q2, .inl (c2, 13, .inr (.inr (.inr (.inr (fun i => if i < 13 then some (r3 i) else none)))))), (q5, .inl (cI, 12, .inl f6))] : va_W) ++ (gr13 r3 cI 12 G4 ++ ([] : va_W))) [0, 1, 2, 16, 3, 4, 5, 6, 7, 8, 9, 10, 11, 12, 13, 14, 15] rfl
  have hD := hD.sub (ws' := ([(o1, .inr (9, [.ref q1, .null, .int 0, .int 0])), (q1, .inr (3, [.ref q2, .int 0])), (q2, .inl (c2, 13, .inr (.inr (.inr (.inr (fun i => if i < 13 then some (r3 i) else none)))))), (q5, .inl (cI, 12, .inl f6))] : va_W) ++ (gr13 r3 cI 12 G4 ++ ([] : va_W))) [0, 1, 2, 16, 3, 4, 5, 6, 7, 8, 9, 10, 11, 12, 13, 14, 15] (by decide) rfl
  refine va_putF (D := (dC, dI)) (ci := 9) (v := .ref q5) (ty := .array .int) (C := RX9) (T := TX9) (N := 4) hx hb hts iw_X9_init_X9 tyX9 tyX9_ok nmX9 hown hK hP hD hS 0 rfl rfl 1 (by decide) (hts (.fieldLink RX9 18 "HolelessHouse$Ring" "path" "[I") hm_X9_init_9) (fun _ h9 => h9) rfl hin rfl (by decide +kernel) rfl rfl (Nat.le_of_ble_eq_true rfl) dX9_init_20 (fun H locs hP hD hS => ?_)
  have hP : va_P (dC, dI) vwCl (([(o1, .inr (9, [.ref q1, .ref q5, .int 0, .int 0])), (q1, .inr (3, [.ref q2, .int 0])), (q2, .inl (c2, 13, .inr (.inr (.inr (.inr (fun i => if i < 13 then some (r3 i) else none)))))), (q5, .inl (cI, 12, .inl f6))] : va_W) ++ (gr13 r3 cI 12 G4 ++ ([] : va_W))) H := hP
  have hD : va_D A (([(o1, .inr (9, [.ref q1, .ref q5, .int 0, .int 0])), (q1, .inr (3, [.ref q2, .int 0])), (q2, .inl (c2, 13, .inr (.inr (.inr (.inr (fun i => if i < 13 then some (r3 i) else none)))))), (q5, .inl (cI, 12, .inl f6))] : va_W) ++ (gr13 r3 cI 12 G4 ++ ([] : va_W))) := hD
  refine lv_aload_n hx hb dX9_init_23 rfl (lv_at hl 0 rfl) ?_
  refine lv_iconst (v := 0) hx hb dX9_init_24 (by decide) ?_
  refine va_put (D := (dC, dI)) (ci := 9) (v := .int 0) (ty := .int) (C := RX9) (T := TX9) (N := 4) hx hb hts iw_X9_init_X9 tyX9 tyX9_ok nmX9 hown hK hP hD hS 0 rfl rfl 2 (by decide) (hts (.fieldLink RX9 22 "HolelessHouse$Ring" "length" "I") hm_X9_init_10) (fun _ h9 => h9) rfl (by decide +kernel) rfl rfl (Nat.le_of_ble_eq_true rfl) dX9_init_25 (fun H locs hP hD hS => ?_)
  have hP : va_P (dC, dI) vwCl (([(o1, .inr (9, [.ref q1, .ref q5, .int 0, .int 0])), (q1, .inr (3, [.ref q2, .int 0])), (q2, .inl (c2, 13, .inr (.inr (.inr (.inr (fun i => if i < 13 then some (r3 i) else none)))))), (q5, .inl (cI, 12, .inl f6))] : va_W) ++ (gr13 r3 cI 12 G4 ++ ([] : va_W))) H := hP
  have hD : va_D A (([(o1, .inr (9, [.ref q1, .ref q5, .int 0, .int 0])), (q1, .inr (3, [.ref q2, .int 0])), (q2, .inl (c2, 13, .inr (.inr (.inr (.inr (fun i => if i < 13 then some (r3 i) else none)))))), (q5, .inl (cI, 12, .inl f6))] : va_W) ++ (gr13 r3 cI 12 G4 ++ ([] : va_W))) := hD
  refine lv_aload_n hx hb dX9_init_28 rfl (lv_at hl 0 rfl) ?_
  refine lv_iconst (v := (-1)) hx hb dX9_init_29 (by decide) ?_
  refine va_put (D := (dC, dI)) (ci := 9) (v := .int (-1)) (ty := .int) (C := RX9) (T := TX9) (N := 4) hx hb hts iw_X9_init_X9 tyX9 tyX9_ok nmX9 hown hK hP hD hS 0 rfl rfl 3 (by decide) (hts (.fieldLink RX9 26 "HolelessHouse$Ring" "madeFor" "I") hm_X9_init_11) (fun _ h9 => h9) rfl (by decide +kernel) rfl rfl (Nat.le_of_ble_eq_true rfl) dX9_init_30 (fun H locs hP hD hS => ?_)
  have hP : va_P (dC, dI) vwCl (([(o1, .inr (9, [.ref q1, .ref q5, .int 0, .int (-1)])), (q1, .inr (3, [.ref q2, .int 0])), (q2, .inl (c2, 13, .inr (.inr (.inr (.inr (fun i => if i < 13 then some (r3 i) else none)))))), (q5, .inl (cI, 12, .inl f6))] : va_W) ++ (gr13 r3 cI 12 G4 ++ ([] : va_W))) H := hP
  have hD : va_D A (([(o1, .inr (9, [.ref q1, .ref q5, .int 0, .int (-1)])), (q1, .inr (3, [.ref q2, .int 0])), (q2, .inl (c2, 13, .inr (.inr (.inr (.inr (fun i => if i < 13 then some (r3 i) else none)))))), (q5, .inl (cI, 12, .inl f6))] : va_W) ++ (gr13 r3 cI 12 G4 ++ ([] : va_W))) := hD
  rw [hQ]
  exact W.vret hx hb hr (fun t ht hW => ⟨⟨((-1), q1, q2, r3, q5, 0, G4, f6), rfl, ⟨(iv_w ik_0 (by decide)), G4_b, f6_b⟩, by rw [ht]; exact hP, va_K.moved hW.alike hK, hD⟩, hS.F ht⟩) hS.2.2 dX9_init_33
theorem iw_X1_init_X1 : ∀ w ∈ wsX10, w ∈ wsX1_init := fun _ h => List.mem_cons.mpr (Or.inr (List.mem_append.mpr (Or.inr h)))
set_option maxHeartbeats 4000000 in
set_option maxRecDepth 100000 in
theorem kX1_init_1 (l : Launch) (dC : Nat → ClassId) (dI : Nat → Nat → Nat) (cI c2 cZ : ClassId) (o1 : Nat) (a1 : Int32) (sz : Nat) (a1_h : Iv 0 0 a1) : Met l yX1_init wsX1_init ({ frames := 1, cells := 4, slots := 117, locals := 12 }) (va_Pc [.ref o1, .int a1] (wPre (dC, dI) [(cI, .int), (c2, .array .int), (cZ, .boolean)] ([(o1, .inr (1, [.int 0, .null, .null, .null, .null, .int 0, .int 0, .int 0]))]) sz)) (va_Qv (fun (u : Int32 × Int32 × Int32 × Nat × Nat × Nat × Nat × (Nat → Int32) × (Nat → Int32) × (Nat → Int32) × (Nat → Int32)) => Iv 0 1 u.1 ∧ Bd 12 0 4095 u.2.2.2.2.2.2.2.1) (fun u t => wPost (dC, dI) [(cI, .int), (c2, .array .int), (cZ, .boolean)] (va_A ([(o1, .inr (1, [.int 0, .null, .null, .null, .null, .int 0, .int 0, .int 0]))]) sz) ([(o1, .inr (1, [.int u.1, .ref u.2.2.2.1, .ref u.2.2.2.2.1, .ref u.2.2.2.2.2.1, .ref u.2.2.2.2.2.2.1, .int 0, .int u.2.1, .int u.2.2.1])), (u.2.2.2.1, .inl (cI, 12, .inl u.2.2.2.2.2.2.2.1)), (u.2.2.2.2.1, .inl (cI, 81, .inl u.2.2.2.2.2.2.2.2.1)), (u.2.2.2.2.2.1, .inl (cI, 12, .inl u.2.2.2.2.2.2.2.2.2.1)), (u.2.2.2.2.2.2.1, .inl (cI, 12, .inl u.2.2.2.2.2.2.2.2.2.2))]) t) (va_A ([(o1, .inr (1, [.int 0, .null, .null, .null, .null, .int 0, .int 0, .int 0]))]) sz)) 4 117 (va_A ([(o1, .inr (1, [.int 0, .null, .null, .null, .null, .int 0, .int 0, .int 0]))]) sz) := by
  refine Met.ofW (cc := cX1_init) (maxL := 2) (ret := none) (by decide) rfl ?_
  intro p e s m args below meth c s₁ B hml hv
  obtain ⟨rfl, hsz, hP, hK, hD0, hN⟩ := hv
  have hx := B.exec
  have hb := B.bytes
  have hr := B.returns
  have hts := atoms_spec (ws := wsX1_init) B.pre
  have hown : s.vm.findClass RX1 = some m.cls := findClass_of_methodNamed B.named
  have hlocks := B.notSynchronized
  have hin : meth.name = "<init>" := (name_of_methodNamed B.named B.method).1
  subst hsz
  have hD := hD0.self (sz := s.heap.size)
  generalize hAe : va_A ([(o1, .inr (1, [.int 0, .null, .null, .null, .null, .int 0, .int 0, .int 0]))]) s.heap.size = A at hD ⊢
  have hA : ∀ q : Nat, s.heap.size ≤ q → A q := fun q h => by rw [← hAe]; exact Or.inr h
  have hS : va_S A s.heap s.heap [] := va_S.rf
  have hP : va_P (dC, dI) vwCl ([(o1, .inr (1, [.int 0, .null, .null, .null, .null, .int 0, .int 0, .int 0]))]) s.heap := hP
  have hl := lv_entry ([.ref o1, .int a1]) (n := 2) (Nat.le_of_ble_eq_true rfl)
  rw [lg_entry_eq]
  generalize (lg_sl ([.ref o1, .int a1]) ++ List.replicate (2 - (lg_sl ([.ref o1, .int a1])).length) Slot.unset).toArray = ls at hl ⊢
  have hl : lv_has ls 2 [(0, .ref o1), (1, .int a1)] := hl
  refine gen_Q (fun Q hQ => ?_)
  refine lv_aload_n hx hb dX1_init_0 rfl (lv_at hl 0 rfl) ?_
  refine W.objInit hx hb hown (hts (.methodLink RX1 3 objectInit) hm_X1_init_1) (hts (.instanceMethod objectInit) hm_X1_init_2) (hts (.code objectInit ⟨#[0xb1]⟩ 1 none) hm_X1_init_3) rfl (by rw [hml]; exact hl.1) rfl dX1_init_1 (Nat.le_of_ble_eq_true rfl) (Nat.le_of_ble_eq_true rfl) ?_
  refine W.eq (g2 := F0 m 4 ls []) rfl ?_
  refine lv_aload_n hx hb dX1_init_4 rfl (lv_at hl 0 rfl) ?_
  refine lv_bipush (v := 12) hx hb dX1_init_5 (by decide) ?_
  refine va_newa (atype := .int) (ty := .int) (N' := 12) (a0 := (12, .inl (fun _ => 0))) hx hb (hts (.arrayClass .int) hm_X1_init_4) rfl hK hP hD hS hA (fun _ => rfl) (by decide +kernel) (by decide +kernel) (by decide +kernel) (Nat.le_of_ble_eq_true rfl) (Nat.le_of_ble_eq_true rfl) dX1_init_7 (fun q1 cA H hK1 hP hD hS => ?_)
  refine W.widen (k := 1) (n := 12) (by decide) (by decide) ?_
  have e9 : cI = cA := K3_int hK1
  subst e9
  obtain ⟨f2, f2_e⟩ : ∃ g : Nat → Int32, g = fun _ => 0 := ⟨_, rfl⟩
  rw [← f2_e] at hP hD
  have f2_b : Bd 12 0 4095 f2 := by rw [f2_e]; exact bd_c ik_0 (by decide)
  have hP : va_P (dC, dI) vwCl ([(o1, .inr (1, [.int 0, .null, .null, .null, .null, .int 0, .int 0, .int 0])), (q1, .inl (cI, 12, .inl f2))]) H := hP
  have hD : va_D A ([(o1, .inr (1, [.int 0, .null, .null, .null, .null, .int 0, .int 0, .int 0])), (q1, .inl (cI, 12, .inl f2))]) := hD
  refine va_putF (D := (dC, dI)) (ci := 1) (v := .ref q1) (ty := .array .int) (C := RX1) (T := TX1) (N := 8) hx hb hts iw_X1_init_X1 tyX1 tyX1_ok nmX1 hown hK hP hD hS 0 rfl rfl 1 (by decide) (hts (.fieldLink RX1 9 "HolelessHouse$Cliques" "near" "[I") hm_X1_init_5) (fun _ h9 => h9) rfl hin rfl (by decide +kernel) rfl rfl (Nat.le_of_ble_eq_true rfl) dX1_init_9 (fun H locs hP hD hS => ?_)
  have hP : va_P (dC, dI) vwCl ([(o1, .inr (1, [.int 0, .ref q1, .null, .null, .null, .int 0, .int 0, .int 0])), (q1, .inl (cI, 12, .inl f2))]) H := hP
  have hD : va_D A ([(o1, .inr (1, [.int 0, .ref q1, .null, .null, .null, .int 0, .int 0, .int 0])), (q1, .inl (cI, 12, .inl f2))]) := hD
  refine lv_aload_n hx hb dX1_init_12 rfl (lv_at hl 0 rfl) ?_
  refine lv_bipush (v := 81) hx hb dX1_init_13 (by decide) ?_
  refine va_newa (atype := .int) (ty := .int) (N' := 81) (a0 := (81, .inl (fun _ => 0))) hx hb (hts (.arrayClass .int) hm_X1_init_4) rfl hK hP hD hS hA (fun _ => rfl) (by decide +kernel) (by decide +kernel) (by decide +kernel) (Nat.le_of_ble_eq_true rfl) (Nat.le_of_ble_eq_true rfl) dX1_init_15 (fun q3 cA H hK1 hP hD hS => ?_)
  refine W.widen (k := 2) (n := 93) (by decide) (by decide) ?_
  have e9 : cI = cA := K3_int hK1
  subst e9
  obtain ⟨f4, f4_e⟩ : ∃ g : Nat → Int32, g = fun _ => 0 := ⟨_, rfl⟩
  rw [← f4_e] at hP hD
  have hP : va_P (dC, dI) vwCl ([(o1, .inr (1, [.int 0, .ref q1, .null, .null, .null, .int 0, .int 0, .int 0])), (q1, .inl (cI, 12, .inl f2)), (q3, .inl (cI, 81, .inl f4))]) H := hP
  have hD : va_D A ([(o1, .inr (1, [.int 0, .ref q1, .null, .null, .null, .int 0, .int 0, .int 0])), (q1, .inl (cI, 12, .inl f2)), (q3, .inl (cI, 81, .inl f4))]) := hD
  refine va_putF (D := (dC, dI)) (ci := 1) (v := .ref q3) (ty := .array .int) (C := RX1) (T := TX1) (N := 8) hx hb hts iw_X1_init_X1 tyX1 tyX1_ok nmX1 hown hK hP hD hS 0 rfl rfl 2 (by decide) (hts (.fieldLink RX1 15 "HolelessHouse$Cliques" "sets" "[I") hm_X1_init_6) (fun _ h9 => h9) rfl hin rfl (by decide +kernel) rfl rfl (Nat.le_of_ble_eq_true rfl) dX1_init_17 (fun H locs hP hD hS => ?_)
  have hP : va_P (dC, dI) vwCl ([(o1, .inr (1, [.int 0, .ref q1, .ref q3, .null, .null, .int 0, .int 0, .int 0])), (q1, .inl (cI, 12, .inl f2)), (q3, .inl (cI, 81, .inl f4))]) H := hP
  have hD : va_D A ([(o1, .inr (1, [.int 0, .ref q1, .ref q3, .null, .null, .int 0, .int 0, .int 0])), (q1, .inl (cI, 12, .inl f2)), (q3, .inl (cI, 81, .inl f4))]) := hD
  refine lv_aload_n hx hb dX1_init_20 rfl (lv_at hl 0 rfl) ?_
  refine lv_bipush (v := 12) hx hb dX1_init_21 (by decide) ?_
  refine va_newa (atype := .int) (ty := .int) (N' := 12) (a0 := (12, .inl (fun _ => 0))) hx hb (hts (.arrayClass .int) hm_X1_init_4) rfl hK hP hD hS hA (fun _ => rfl) (by decide +kernel) (by decide +kernel) (by decide +kernel) (Nat.le_of_ble_eq_true rfl) (Nat.le_of_ble_eq_true rfl) dX1_init_23 (fun q5 cA H hK1 hP hD hS => ?_)
  refine W.widen (k := 3) (n := 105) (by decide) (by decide) ?_
  have e9 : cI = cA := K3_int hK1
  subst e9
  obtain ⟨f6, f6_e⟩ : ∃ g : Nat → Int32, g = fun _ => 0 := ⟨_, rfl⟩
  rw [← f6_e] at hP hD
  have hP : va_P (dC, dI) vwCl ([(o1, .inr (1, [.int 0, .ref q1, .ref q3, .null, .null, .int 0, .int 0, .int 0])), (q1, .inl (cI, 12, .inl f2)), (q3, .inl (cI, 81, .inl f4)), (q5, .inl (cI, 12, .inl f6))]) H := hP
  have hD : va_D A ([(o1, .inr (1, [.int 0, .ref q1, .ref q3, .null, .null, .int 0, .int 0, .int 0])), (q1, .inl (cI, 12, .inl f2)), (q3, .inl (cI, 81, .inl f4)), (q5, .inl (cI, 12, .inl f6))]) := hD
  refine va_putF (D := (dC, dI)) (ci := 1) (v := .ref q5) (ty := .array .int) (C := RX1) (T := TX1) (N := 8) hx hb hts iw_X1_init_X1 tyX1 tyX1_ok nmX1 hown hK hP hD hS 0 rfl rfl 3 (by decide) (hts (.fieldLink RX1 18 "HolelessHouse$Cliques" "parents" "[I") hm_X1_init_7) (fun _ h9 => h9) rfl hin rfl (by decide +kernel) rfl rfl (Nat.le_of_ble_eq_true rfl) dX1_init_25 (fun H locs hP hD hS => ?_)
  have hP : va_P (dC, dI) vwCl ([(o1, .inr (1, [.int 0, .ref q1, .ref q3, .ref q5, .null, .int 0, .int 0, .int 0])), (q1, .inl (cI, 12, .inl f2)), (q3, .inl (cI, 81, .inl f4)), (q5, .inl (cI, 12, .inl f6))]) H := hP
  have hD : va_D A ([(o1, .inr (1, [.int 0, .ref q1, .ref q3, .ref q5, .null, .int 0, .int 0, .int 0])), (q1, .inl (cI, 12, .inl f2)), (q3, .inl (cI, 81, .inl f4)), (q5, .inl (cI, 12, .inl f6))]) := hD
  refine lv_aload_n hx hb dX1_init_28 rfl (lv_at hl 0 rfl) ?_
  refine lv_bipush (v := 12) hx hb dX1_init_29 (by decide) ?_
  refine va_newa (atype := .int) (ty := .int) (N' := 12) (a0 := (12, .inl (fun _ => 0))) hx hb (hts (.arrayClass .int) hm_X1_init_4) rfl hK hP hD hS hA (fun _ => rfl) (by decide +kernel) (by decide +kernel) (by decide +kernel) (Nat.le_of_ble_eq_true rfl) (Nat.le_of_ble_eq_true rfl) dX1_init_31 (fun q7 cA H hK1 hP hD hS => ?_)
  refine W.widen (k := 4) (n := 117) (by decide) (by decide) ?_
  have e9 : cI = cA := K3_int hK1
  subst e9
  obtain ⟨f8, f8_e⟩ : ∃ g : Nat → Int32, g = fun _ => 0 := ⟨_, rfl⟩
  rw [← f8_e] at hP hD
  have hP : va_P (dC, dI) vwCl ([(o1, .inr (1, [.int 0, .ref q1, .ref q3, .ref q5, .null, .int 0, .int 0, .int 0])), (q1, .inl (cI, 12, .inl f2)), (q3, .inl (cI, 81, .inl f4)), (q5, .inl (cI, 12, .inl f6)), (q7, .inl (cI, 12, .inl f8))]) H := hP
  have hD : va_D A ([(o1, .inr (1, [.int 0, .ref q1, .ref q3, .ref q5, .null, .int 0, .int 0, .int 0])), (q1, .inl (cI, 12, .inl f2)), (q3, .inl (cI, 81, .inl f4)), (q5, .inl (cI, 12, .inl f6)), (q7, .inl (cI, 12, .inl f8))]) := hD
  refine va_putF (D := (dC, dI)) (ci := 1) (v := .ref q7) (ty := .array .int) (C := RX1) (T := TX1) (N := 8) hx hb hts iw_X1_init_X1 tyX1 tyX1_ok nmX1 hown hK hP hD hS 0 rfl rfl 4 (by decide) (hts (.fieldLink RX1 21 "HolelessHouse$Cliques" "shared" "[I") hm_X1_init_8) (fun _ h9 => h9) rfl hin rfl (by decide +kernel) rfl rfl (Nat.le_of_ble_eq_true rfl) dX1_init_33 (fun H locs hP hD hS => ?_)
  have hP : va_P (dC, dI) vwCl ([(o1, .inr (1, [.int 0, .ref q1, .ref q3, .ref q5, .ref q7, .int 0, .int 0, .int 0])), (q1, .inl (cI, 12, .inl f2)), (q3, .inl (cI, 81, .inl f4)), (q5, .inl (cI, 12, .inl f6)), (q7, .inl (cI, 12, .inl f8))]) H := hP
  have hD : va_D A ([(o1, .inr (1, [.int 0, .ref q1, .ref q3, .ref q5, .ref q7, .int 0, .int 0, .int 0])), (q1, .inl (cI, 12, .inl f2)), (q3, .inl (cI, 81, .inl f4)), (q5, .inl (cI, 12, .inl f6)), (q7, .inl (cI, 12, .inl f8))]) := hD
  refine lv_aload_n hx hb dX1_init_36 rfl (lv_at hl 0 rfl) ?_
  refine lv_iconst (v := 0) hx hb dX1_init_37 (by decide) ?_
  refine va_put (D := (dC, dI)) (ci := 1) (v := .int 0) (ty := .int) (C := RX1) (T := TX1) (N := 8) hx hb hts iw_X1_init_X1 tyX1 tyX1_ok nmX1 hown hK hP hD hS 0 rfl rfl 5 (by decide) (hts (.fieldLink RX1 24 "HolelessHouse$Cliques" "size" "I") hm_X1_init_9) (fun _ h9 => h9) rfl (by decide +kernel) rfl rfl (Nat.le_of_ble_eq_true rfl) dX1_init_38 (fun H locs hP hD hS => ?_)
  have hP : va_P (dC, dI) vwCl ([(o1, .inr (1, [.int 0, .ref q1, .ref q3, .ref q5, .ref q7, .int 0, .int 0, .int 0])), (q1, .inl (cI, 12, .inl f2)), (q3, .inl (cI, 81, .inl f4)), (q5, .inl (cI, 12, .inl f6)), (q7, .inl (cI, 12, .inl f8))]) H := hP
  have hD : va_D A ([(o1, .inr (1, [.int 0, .ref q1, .ref q3, .ref q5, .ref q7, .int 0, .int 0, .int 0])), (q1, .inl (cI, 12, .inl f2)), (q3, .inl (cI, 81, .inl f4)), (q5, .inl (cI, 12, .inl f6)), (q7, .inl (cI, 12, .inl f8))]) := hD
  refine lv_aload_n hx hb dX1_init_41 rfl (lv_at hl 0 rfl) ?_
  refine lv_iconst (v := (-1)) hx hb dX1_init_42 (by decide) ?_
  refine va_put (D := (dC, dI)) (ci := 1) (v := .int (-1)) (ty := .int) (C := RX1) (T := TX1) (N := 8) hx hb hts iw_X1_init_X1 tyX1 tyX1_ok nmX1 hown hK hP hD hS 0 rfl rfl 6 (by decide) (hts (.fieldLink RX1 28 "HolelessHouse$Cliques" "madeFor" "I") hm_X1_init_10) (fun _ h9 => h9) rfl (by decide +kernel) rfl rfl (Nat.le_of_ble_eq_true rfl) dX1_init_43 (fun H locs hP hD hS => ?_)
  have hP : va_P (dC, dI) vwCl ([(o1, .inr (1, [.int 0, .ref q1, .ref q3, .ref q5, .ref q7, .int 0, .int (-1), .int 0])), (q1, .inl (cI, 12, .inl f2)), (q3, .inl (cI, 81, .inl f4)), (q5, .inl (cI, 12, .inl f6)), (q7, .inl (cI, 12, .inl f8))]) H := hP
  have hD : va_D A ([(o1, .inr (1, [.int 0, .ref q1, .ref q3, .ref q5, .ref q7, .int 0, .int (-1), .int 0])), (q1, .inl (cI, 12, .inl f2)), (q3, .inl (cI, 81, .inl f4)), (q5, .inl (cI, 12, .inl f6)), (q7, .inl (cI, 12, .inl f8))]) := hD
  refine lv_aload_n hx hb dX1_init_46 rfl (lv_at hl 0 rfl) ?_
  refine lv_iconst (v := (-1)) hx hb dX1_init_47 (by decide) ?_
  refine va_put (D := (dC, dI)) (ci := 1) (v := .int (-1)) (ty := .int) (C := RX1) (T := TX1) (N := 8) hx hb hts iw_X1_init_X1 tyX1 tyX1_ok nmX1 hown hK hP hD hS 0 rfl rfl 7 (by decide) (hts (.fieldLink RX1 31 "HolelessHouse$Cliques" "treeMadeFor" "I") hm_X1_init_11) (fun _ h9 => h9) rfl (by decide +kernel) rfl rfl (Nat.le_of_ble_eq_true rfl) dX1_init_48 (fun H locs hP hD hS => ?_)
  have hP : va_P (dC, dI) vwCl ([(o1, .inr (1, [.int 0, .ref q1, .ref q3, .ref q5, .ref q7, .int 0, .int (-1), .int (-1)])), (q1, .inl (cI, 12, .inl f2)), (q3, .inl (cI, 81, .inl f4)), (q5, .inl (cI, 12, .inl f6)), (q7, .inl (cI, 12, .inl f8))]) H := hP
  have hD : va_D A ([(o1, .inr (1, [.int 0, .ref q1, .ref q3, .ref q5, .ref q7, .int 0, .int (-1), .int (-1)])), (q1, .inl (cI, 12, .inl f2)), (q3, .inl (cI, 81, .inl f4)), (q5, .inl (cI, 12, .inl f6)), (q7, .inl (cI, 12, .inl f8))]) := hD
  refine lv_aload_n hx hb dX1_init_51 rfl (lv_at hl 0 rfl) ?_
  refine lv_iload_n hx hb dX1_init_52 rfl (lv_at hl 1 rfl) ?_
  refine va_putF (D := (dC, dI)) (ci := 1) (v := .int a1) (ty := .boolean) (C := RX1) (T := TX1) (N := 8) hx hb hts iw_X1_init_X1 tyX1 tyX1_ok nmX1 hown hK hP hD hS 0 rfl rfl 0 (by decide) (hts (.fieldLink RX1 34 "HolelessHouse$Cliques" "turned" "Z") hm_X1_init_12) (fun _ h9 => h9) rfl hin rfl (by decide +kernel) (nar_z (iv_w a1_h (by decide))) (fit_z (iv_w a1_h (by decide))) (Nat.le_of_ble_eq_true rfl) dX1_init_53 (fun H locs hP hD hS => ?_)
  have hP : va_P (dC, dI) vwCl ([(o1, .inr (1, [.int a1, .ref q1, .ref q3, .ref q5, .ref q7, .int 0, .int (-1), .int (-1)])), (q1, .inl (cI, 12, .inl f2)), (q3, .inl (cI, 81, .inl f4)), (q5, .inl (cI, 12, .inl f6)), (q7, .inl (cI, 12, .inl f8))]) H := hP
  have hD : va_D A ([(o1, .inr (1, [.int a1, .ref q1, .ref q3, .ref q5, .ref q7, .int 0, .int (-1), .int (-1)])), (q1, .inl (cI, 12, .inl f2)), (q3, .inl (cI, 81, .inl f4)), (q5, .inl (cI, 12, .inl f6)), (q7, .inl (cI, 12, .inl f8))]) := hD
  rw [hQ]
  exact W.vret hx hb hr (fun t ht hW => ⟨⟨(a1, (-1), (-1), q1, q3, q5, q7, f2, f4, f6, f8), rfl, ⟨(iv_w a1_h (by decide)), f2_b⟩, by rw [ht]; exact hP, va_K.moved hW.alike hK, hD⟩, hS.F ht⟩) hS.2.2 dX1_init_56
set_option maxHeartbeats 4000000 in
set_option maxRecDepth 100000 in
theorem kX1_init_2 (l : Launch) (dC : Nat → ClassId) (dI : Nat → Nat → Nat) (cI c2 cZ : ClassId) (o1 : Nat) (a1 : Int32) (sz : Nat) (a1_h : Iv 1 1 a1) : Met l yX1_init wsX1_init ({ frames := 1, cells := 4, slots := 117, locals := 12 }) (va_Pc [.ref o1, .int a1] (wPre (dC, dI) [(cI, .int), (c2, .array .int), (cZ, .boolean)] ([(o1, .inr (1, [.int 0, .null, .null, .null, .null, .int 0, .int 0, .int 0]))]) sz)) (va_Qv (fun (u : Int32 × Int32 × Int32 × Nat × Nat × Nat × Nat × (Nat → Int32) × (Nat → Int32) × (Nat → Int32) × (Nat → Int32)) => Iv 0 1 u.1 ∧ Bd 12 0 4095 u.2.2.2.2.2.2.2.1) (fun u t => wPost (dC, dI) [(cI, .int), (c2, .array .int), (cZ, .boolean)] (va_A ([(o1, .inr (1, [.int 0, .null, .null, .null, .null, .int 0, .int 0, .int 0]))]) sz) ([(o1, .inr (1, [.int u.1, .ref u.2.2.2.1, .ref u.2.2.2.2.1, .ref u.2.2.2.2.2.1, .ref u.2.2.2.2.2.2.1, .int 0, .int u.2.1, .int u.2.2.1])), (u.2.2.2.1, .inl (cI, 12, .inl u.2.2.2.2.2.2.2.1)), (u.2.2.2.2.1, .inl (cI, 81, .inl u.2.2.2.2.2.2.2.2.1)), (u.2.2.2.2.2.1, .inl (cI, 12, .inl u.2.2.2.2.2.2.2.2.2.1)), (u.2.2.2.2.2.2.1, .inl (cI, 12, .inl u.2.2.2.2.2.2.2.2.2.2))]) t) (va_A ([(o1, .inr (1, [.int 0, .null, .null, .null, .null, .int 0, .int 0, .int 0]))]) sz)) 4 117 (va_A ([(o1, .inr (1, [.int 0, .null, .null, .null, .null, .int 0, .int 0, .int 0]))]) sz) := by
  refine Met.ofW (cc := cX1_init) (maxL := 2) (ret := none) (by decide) rfl ?_
  intro p e s m args below meth c s₁ B hml hv
  obtain ⟨rfl, hsz, hP, hK, hD0, hN⟩ := hv
  have hx := B.exec
  have hb := B.bytes
  have hr := B.returns
  have hts := atoms_spec (ws := wsX1_init) B.pre
  have hown : s.vm.findClass RX1 = some m.cls := findClass_of_methodNamed B.named
  have hlocks := B.notSynchronized
  have hin : meth.name = "<init>" := (name_of_methodNamed B.named B.method).1
  subst hsz
  have hD := hD0.self (sz := s.heap.size)
  generalize hAe : va_A ([(o1, .inr (1, [.int 0, .null, .null, .null, .null, .int 0, .int 0, .int 0]))]) s.heap.size = A at hD ⊢
  have hA : ∀ q : Nat, s.heap.size ≤ q → A q := fun q h => by rw [← hAe]; exact Or.inr h
  have hS : va_S A s.heap s.heap [] := va_S.rf
  have hP : va_P (dC, dI) vwCl ([(o1, .inr (1, [.int 0, .null, .null, .null, .null, .int 0, .int 0, .int 0]))]) s.heap := hP
  have hl := lv_entry ([.ref o1, .int a1]) (n := 2) (Nat.le_of_ble_eq_true rfl)
  rw [lg_entry_eq]
  generalize (lg_sl ([.ref o1, .int a1]) ++ List.replicate (2 - (lg_sl ([.ref o1, .int a1])).length) Slot.unset).toArray = ls at hl ⊢
  have hl : lv_has ls 2 [(0, .ref o1), (1, .int a1)] := hl
  refine gen_Q (fun Q hQ => ?_)
  refine lv_aload_n hx hb dX1_init_0 rfl (lv_at hl 0 rfl) ?_
  refine W.objInit hx hb hown (hts (.methodLink RX1 3 objectInit) hm_X1_init_1) (hts (.instanceMethod objectInit) hm_X1_init_2) (hts (.code objectInit ⟨#[0xb1]⟩ 1 none) hm_X1_init_3) rfl (by rw [hml]; exact hl.1) rfl dX1_init_1 (Nat.le_of_ble_eq_true rfl) (Nat.le_of_ble_eq_true rfl) ?_
  refine W.eq (g2 := F0 m 4 ls []) rfl ?_
  refine lv_aload_n hx hb dX1_init_4 rfl (lv_at hl 0 rfl) ?_
  refine lv_bipush (v := 12) hx hb dX1_init_5 (by decide) ?_
  refine va_newa (atype := .int) (ty := .int) (N' := 12) (a0 := (12, .inl (fun _ => 0))) hx hb (hts (.arrayClass .int) hm_X1_init_4) rfl hK hP hD hS hA (fun _ => rfl) (by decide +kernel) (by decide +kernel) (by decide +kernel) (Nat.le_of_ble_eq_true rfl) (Nat.le_of_ble_eq_true rfl) dX1_init_7 (fun q1 cA H hK1 hP hD hS => ?_)
  refine W.widen (k := 1) (n := 12) (by decide) (by decide) ?_
  have e9 : cI = cA := K3_int hK1
  subst e9
  obtain ⟨f2, f2_e⟩ : ∃ g : Nat → Int32, g = fun _ => 0 := ⟨_, rfl⟩
  rw [← f2_e] at hP hD
  have f2_b : Bd 12 0 4095 f2 := by rw [f2_e]; exact bd_c ik_0 (by decide)
  have hP : va_P (dC, dI) vwCl ([(o1, .inr (1, [.int 0, .null, .null, .null, .null, .int 0, .int 0, .int 0])), (q1, .inl (cI, 12, .inl f2))]) H := hP
  have hD : va_D A ([(o1, .inr (1, [.int 0, .null, .null, .null, .null, .int 0, .int 0, .int 0])), (q1, .inl (cI, 12, .inl f2))]) := hD
  refine va_putF (D := (dC, dI)) (ci := 1) (v := .ref q1) (ty := .array .int) (C := RX1) (T := TX1) (N := 8) hx hb hts iw_X1_init_X1 tyX1 tyX1_ok nmX1 hown hK hP hD hS 0 rfl rfl 1 (by decide) (hts (.fieldLink RX1 9 "HolelessHouse$Cliques" "near" "[I") hm_X1_init_5) (fun _ h9 => h9) rfl hin rfl (by decide +kernel) rfl rfl (Nat.le_of_ble_eq_true rfl) dX1_init_9 (fun H locs hP hD hS => ?_)
  have hP : va_P (dC, dI) vwCl ([(o1, .inr (1, [.int 0, .ref q1, .null, .null, .null, .int 0, .int 0, .int 0])), (q1, .inl (cI, 12, .inl f2))]) H := hP
  have hD : va_D A ([(o1, .inr (1, [.int 0, .ref q1, .null, .null, .null, .int 0, .int 0, .int 0])), (q1, .inl (cI, 12, .inl f2))]) := hD
  refine lv_aload_n hx hb dX1_init_12 rfl (lv_at hl 0 rfl) ?_
  refine lv_bipush (v := 81) hx hb dX1_init_13 (by decide) ?_
  refine va_newa (atype := .int) (ty := .int) (N' := 81) (a0 := (81, .inl (fun _ => 0))) hx hb (hts (.arrayClass .int) hm_X1_init_4) rfl hK hP hD hS hA (fun _ => rfl) (by decide +kernel) (by decide +kernel) (by decide +kernel) (Nat.le_of_ble_eq_true rfl) (Nat.le_of_ble_eq_true rfl) dX1_init_15 (fun q3 cA H hK1 hP hD hS => ?_)
  refine W.widen (k := 2) (n := 93) (by decide) (by decide) ?_
  have e9 : cI = cA := K3_int hK1
  subst e9
  obtain ⟨f4, f4_e⟩ : ∃ g : Nat → Int32, g = fun _ => 0 := ⟨_, rfl⟩
  rw [← f4_e] at hP hD
  have hP : va_P (dC, dI) vwCl ([(o1, .inr (1, [.int 0, .ref q1, .null, .null, .null, .int 0, .int 0, .int 0])), (q1, .inl (cI, 12, .inl f2)), (q3, .inl (cI, 81, .inl f4))]) H := hP
  have hD : va_D A ([(o1, .inr (1, [.int 0, .ref q1, .null, .null, .null, .int 0, .int 0, .int 0])), (q1, .inl (cI, 12, .inl f2)), (q3, .inl (cI, 81, .inl f4))]) := hD
  refine va_putF (D := (dC, dI)) (ci := 1) (v := .ref q3) (ty := .array .int) (C := RX1) (T := TX1) (N := 8) hx hb hts iw_X1_init_X1 tyX1 tyX1_ok nmX1 hown hK hP hD hS 0 rfl rfl 2 (by decide) (hts (.fieldLink RX1 15 "HolelessHouse$Cliques" "sets" "[I") hm_X1_init_6) (fun _ h9 => h9) rfl hin rfl (by decide +kernel) rfl rfl (Nat.le_of_ble_eq_true rfl) dX1_init_17 (fun H locs hP hD hS => ?_)
  have hP : va_P (dC, dI) vwCl ([(o1, .inr (1, [.int 0, .ref q1, .ref q3, .null, .null, .int 0, .int 0, .int 0])), (q1, .inl (cI, 12, .inl f2)), (q3, .inl (cI, 81, .inl f4))]) H := hP
  have hD : va_D A ([(o1, .inr (1, [.int 0, .ref q1, .ref q3, .null, .null, .int 0, .int 0, .int 0])), (q1, .inl (cI, 12, .inl f2)), (q3, .inl (cI, 81, .inl f4))]) := hD
  refine lv_aload_n hx hb dX1_init_20 rfl (lv_at hl 0 rfl) ?_
  refine lv_bipush (v := 12) hx hb dX1_init_21 (by decide) ?_
  refine va_newa (atype := .int) (ty := .int) (N' := 12) (a0 := (12, .inl (fun _ => 0))) hx hb (hts (.arrayClass .int) hm_X1_init_4) rfl hK hP hD hS hA (fun _ => rfl) (by decide +kernel) (by decide +kernel) (by decide +kernel) (Nat.le_of_ble_eq_true rfl) (Nat.le_of_ble_eq_true rfl) dX1_init_23 (fun q5 cA H hK1 hP hD hS => ?_)
  refine W.widen (k := 3) (n := 105) (by decide) (by decide) ?_
  have e9 : cI = cA := K3_int hK1
  subst e9
  obtain ⟨f6, f6_e⟩ : ∃ g : Nat → Int32, g = fun _ => 0 := ⟨_, rfl⟩
  rw [← f6_e] at hP hD
  have hP : va_P (dC, dI) vwCl ([(o1, .inr (1, [.int 0, .ref q1, .ref q3, .null, .null, .int 0, .int 0, .int 0])), (q1, .inl (cI, 12, .inl f2)), (q3, .inl (cI, 81, .inl f4)), (q5, .inl (cI, 12, .inl f6))]) H := hP
  have hD : va_D A ([(o1, .inr (1, [.int 0, .ref q1, .ref q3, .null, .null, .int 0, .int 0, .int 0])), (q1, .inl (cI, 12, .inl f2)), (q3, .inl (cI, 81, .inl f4)), (q5, .inl (cI, 12, .inl f6))]) := hD
  refine va_putF (D := (dC, dI)) (ci := 1) (v := .ref q5) (ty := .array .int) (C := RX1) (T := TX1) (N := 8) hx hb hts iw_X1_init_X1 tyX1 tyX1_ok nmX1 hown hK hP hD hS 0 rfl rfl 3 (by decide) (hts (.fieldLink RX1 18 "HolelessHouse$Cliques" "parents" "[I") hm_X1_init_7) (fun _ h9 => h9) rfl hin rfl (by decide +kernel) rfl rfl (Nat.le_of_ble_eq_true rfl) dX1_init_25 (fun H locs hP hD hS => ?_)
  have hP : va_P (dC, dI) vwCl ([(o1, .inr (1, [.int 0, .ref q1, .ref q3, .ref q5, .null, .int 0, .int 0, .int 0])), (q1, .inl (cI, 12, .inl f2)), (q3, .inl (cI, 81, .inl f4)), (q5, .inl (cI, 12, .inl f6))]) H := hP
  have hD : va_D A ([(o1, .inr (1, [.int 0, .ref q1, .ref q3, .ref q5, .null, .int 0, .int 0, .int 0])), (q1, .inl (cI, 12, .inl f2)), (q3, .inl (cI, 81, .inl f4)), (q5, .inl (cI, 12, .inl f6))]) := hD
  refine lv_aload_n hx hb dX1_init_28 rfl (lv_at hl 0 rfl) ?_
  refine lv_bipush (v := 12) hx hb dX1_init_29 (by decide) ?_
  refine va_newa (atype := .int) (ty := .int) (N' := 12) (a0 := (12, .inl (fun _ => 0))) hx hb (hts (.arrayClass .int) hm_X1_init_4) rfl hK hP hD hS hA (fun _ => rfl) (by decide +kernel) (by decide +kernel) (by decide +kernel) (Nat.le_of_ble_eq_true rfl) (Nat.le_of_ble_eq_true rfl) dX1_init_31 (fun q7 cA H hK1 hP hD hS => ?_)
  refine W.widen (k := 4) (n := 117) (by decide) (by decide) ?_
  have e9 : cI = cA := K3_int hK1
  subst e9
  obtain ⟨f8, f8_e⟩ : ∃ g : Nat → Int32, g = fun _ => 0 := ⟨_, rfl⟩
  rw [← f8_e] at hP hD
  have hP : va_P (dC, dI) vwCl ([(o1, .inr (1, [.int 0, .ref q1, .ref q3, .ref q5, .null, .int 0, .int 0, .int 0])), (q1, .inl (cI, 12, .inl f2)), (q3, .inl (cI, 81, .inl f4)), (q5, .inl (cI, 12, .inl f6)), (q7, .inl (cI, 12, .inl f8))]) H := hP
  have hD : va_D A ([(o1, .inr (1, [.int 0, .ref q1, .ref q3, .ref q5, .null, .int 0, .int 0, .int 0])), (q1, .inl (cI, 12, .inl f2)), (q3, .inl (cI, 81, .inl f4)), (q5, .inl (cI, 12, .inl f6)), (q7, .inl (cI, 12, .inl f8))]) := hD
  refine va_putF (D := (dC, dI)) (ci := 1) (v := .ref q7) (ty := .array .int) (C := RX1) (T := TX1) (N := 8) hx hb hts iw_X1_init_X1 tyX1 tyX1_ok nmX1 hown hK hP hD hS 0 rfl rfl 4 (by decide) (hts (.fieldLink RX1 21 "HolelessHouse$Cliques" "shared" "[I") hm_X1_init_8) (fun _ h9 => h9) rfl hin rfl (by decide +kernel) rfl rfl (Nat.le_of_ble_eq_true rfl) dX1_init_33 (fun H locs hP hD hS => ?_)
  have hP : va_P (dC, dI) vwCl ([(o1, .inr (1, [.int 0, .ref q1, .ref q3, .ref q5, .ref q7, .int 0, .int 0, .int 0])), (q1, .inl (cI, 12, .inl f2)), (q3, .inl (cI, 81, .inl f4)), (q5, .inl (cI, 12, .inl f6)), (q7, .inl (cI, 12, .inl f8))]) H := hP
  have hD : va_D A ([(o1, .inr (1, [.int 0, .ref q1, .ref q3, .ref q5, .ref q7, .int 0, .int 0, .int 0])), (q1, .inl (cI, 12, .inl f2)), (q3, .inl (cI, 81, .inl f4)), (q5, .inl (cI, 12, .inl f6)), (q7, .inl (cI, 12, .inl f8))]) := hD
  refine lv_aload_n hx hb dX1_init_36 rfl (lv_at hl 0 rfl) ?_
  refine lv_iconst (v := 0) hx hb dX1_init_37 (by decide) ?_
  refine va_put (D := (dC, dI)) (ci := 1) (v := .int 0) (ty := .int) (C := RX1) (T := TX1) (N := 8) hx hb hts iw_X1_init_X1 tyX1 tyX1_ok nmX1 hown hK hP hD hS 0 rfl rfl 5 (by decide) (hts (.fieldLink RX1 24 "HolelessHouse$Cliques" "size" "I") hm_X1_init_9) (fun _ h9 => h9) rfl (by decide +kernel) rfl rfl (Nat.le_of_ble_eq_true rfl) dX1_init_38 (fun H locs hP hD hS => ?_)
  have hP : va_P (dC, dI) vwCl ([(o1, .inr (1, [.int 0, .ref q1, .ref q3, .ref q5, .ref q7, .int 0, .int 0, .int 0])), (q1, .inl (cI, 12, .inl f2)), (q3, .inl (cI, 81, .inl f4)), (q5, .inl (cI, 12, .inl f6)), (q7, .inl (cI, 12, .inl f8))]) H := hP
  have hD : va_D A ([(o1, .inr (1, [.int 0, .ref q1, .ref q3, .ref q5, .ref q7, .int 0, .int 0, .int 0])), (q1, .inl (cI, 12, .inl f2)), (q3, .inl (cI, 81, .inl f4)), (q5, .inl (cI, 12, .inl f6)), (q7, .inl (cI, 12, .inl f8))]) := hD
  refine lv_aload_n hx hb dX1_init_41 rfl (lv_at hl 0 rfl) ?_
  refine lv_iconst (v := (-1)) hx hb dX1_init_42 (by decide) ?_
  refine va_put (D := (dC, dI)) (ci := 1) (v := .int (-1)) (ty := .int) (C := RX1) (T := TX1) (N := 8) hx hb hts iw_X1_init_X1 tyX1 tyX1_ok nmX1 hown hK hP hD hS 0 rfl rfl 6 (by decide) (hts (.fieldLink RX1 28 "HolelessHouse$Cliques" "madeFor" "I") hm_X1_init_10) (fun _ h9 => h9) rfl (by decide +kernel) rfl rfl (Nat.le_of_ble_eq_true rfl) dX1_init_43 (fun H locs hP hD hS => ?_)
  have hP : va_P (dC, dI) vwCl ([(o1, .inr (1, [.int 0, .ref q1, .ref q3, .ref q5, .ref q7, .int 0, .int (-1), .int 0])), (q1, .inl (cI, 12, .inl f2)), (q3, .inl (cI, 81, .inl f4)), (q5, .inl (cI, 12, .inl f6)), (q7, .inl (cI, 12, .inl f8))]) H := hP
  have hD : va_D A ([(o1, .inr (1, [.int 0, .ref q1, .ref q3, .ref q5, .ref q7, .int 0, .int (-1), .int 0])), (q1, .inl (cI, 12, .inl f2)), (q3, .inl (cI, 81, .inl f4)), (q5, .inl (cI, 12, .inl f6)), (q7, .inl (cI, 12, .inl f8))]) := hD
  refine lv_aload_n hx hb dX1_init_46 rfl (lv_at hl 0 rfl) ?_
  refine lv_iconst (v := (-1)) hx hb dX1_init_47 (by decide) ?_
  refine va_put (D := (dC, dI)) (ci := 1) (v := .int (-1)) (ty := .int) (C := RX1) (T := TX1) (N := 8) hx hb hts iw_X1_init_X1 tyX1 tyX1_ok nmX1 hown hK hP hD hS 0 rfl rfl 7 (by decide) (hts (.fieldLink RX1 31 "HolelessHouse$Cliques" "treeMadeFor" "I") hm_X1_init_11) (fun _ h9 => h9) rfl (by decide +kernel) rfl rfl (Nat.le_of_ble_eq_true rfl) dX1_init_48 (fun H locs hP hD hS => ?_)
  have hP : va_P (dC, dI) vwCl ([(o1, .inr (1, [.int 0, .ref q1, .ref q3, .ref q5, .ref q7, .int 0, .int (-1), .int (-1)])), (q1, .inl (cI, 12, .inl f2)), (q3, .inl (cI, 81, .inl f4)), (q5, .inl (cI, 12, .inl f6)), (q7, .inl (cI, 12, .inl f8))]) H := hP
  have hD : va_D A ([(o1, .inr (1, [.int 0, .ref q1, .ref q3, .ref q5, .ref q7, .int 0, .int (-1), .int (-1)])), (q1, .inl (cI, 12, .inl f2)), (q3, .inl (cI, 81, .inl f4)), (q5, .inl (cI, 12, .inl f6)), (q7, .inl (cI, 12, .inl f8))]) := hD
  refine lv_aload_n hx hb dX1_init_51 rfl (lv_at hl 0 rfl) ?_
  refine lv_iload_n hx hb dX1_init_52 rfl (lv_at hl 1 rfl) ?_
  refine va_putF (D := (dC, dI)) (ci := 1) (v := .int a1) (ty := .boolean) (C := RX1) (T := TX1) (N := 8) hx hb hts iw_X1_init_X1 tyX1 tyX1_ok nmX1 hown hK hP hD hS 0 rfl rfl 0 (by decide) (hts (.fieldLink RX1 34 "HolelessHouse$Cliques" "turned" "Z") hm_X1_init_12) (fun _ h9 => h9) rfl hin rfl (by decide +kernel) (nar_z (iv_w a1_h (by decide))) (fit_z (iv_w a1_h (by decide))) (Nat.le_of_ble_eq_true rfl) dX1_init_53 (fun H locs hP hD hS => ?_)
  have hP : va_P (dC, dI) vwCl ([(o1, .inr (1, [.int a1, .ref q1, .ref q3, .ref q5, .ref q7, .int 0, .int (-1), .int (-1)])), (q1, .inl (cI, 12, .inl f2)), (q3, .inl (cI, 81, .inl f4)), (q5, .inl (cI, 12, .inl f6)), (q7, .inl (cI, 12, .inl f8))]) H := hP
  have hD : va_D A ([(o1, .inr (1, [.int a1, .ref q1, .ref q3, .ref q5, .ref q7, .int 0, .int (-1), .int (-1)])), (q1, .inl (cI, 12, .inl f2)), (q3, .inl (cI, 81, .inl f4)), (q5, .inl (cI, 12, .inl f6)), (q7, .inl (cI, 12, .inl f8))]) := hD
  rw [hQ]
  exact W.vret hx hb hr (fun t ht hW => ⟨⟨(a1, (-1), (-1), q1, q3, q5, q7, f2, f4, f6, f8), rfl, ⟨(iv_w a1_h (by decide)), f2_b⟩, by rw [ht]; exact hP, va_K.moved hW.alike hK, hD⟩, hS.F ht⟩) hS.2.2 dX1_init_56
theorem iw_X7_init_X7 : ∀ w ∈ wsX70, w ∈ wsX7_init := fun _ h => List.mem_cons.mpr (Or.inr (List.mem_append.mpr (Or.inr h)))
set_option maxHeartbeats 4000000 in
set_option maxRecDepth 100000 in
theorem kX7_init_1 (l : Launch) (dC : Nat → ClassId) (dI : Nat → Nat → Nat) (cI c2 cZ : ClassId) (o1 : Nat) (sz : Nat) : Met l yX7_init wsX7_init ({ frames := 1, cells := 2, slots := 24, locals := 12 }) (va_Pc [.ref o1] (wPre (dC, dI) [(cI, .int), (c2, .array .int), (cZ, .boolean)] ([(o1, .inr (7, [.null, .null, .int 0, .int 0]))]) sz)) (va_Qv (fun (u : Int32 × Nat × Nat × (Nat → Int32) × (Nat → Int32)) => True) (fun u t => wPost (dC, dI) [(cI, .int), (c2, .array .int), (cZ, .boolean)] (va_A ([(o1, .inr (7, [.null, .null, .int 0, .int 0]))]) sz) ([(o1, .inr (7, [.ref u.2.1, .ref u.2.2.1, .int 0, .int u.1])), (u.2.1, .inl (cI, 12, .inl u.2.2.2.1)), (u.2.2.1, .inl (cI, 12, .inl u.2.2.2.2))]) t) (va_A ([(o1, .inr (7, [.null, .null, .int 0, .int 0]))]) sz)) 2 24 (va_A ([(o1, .inr (7, [.null, .null, .int 0, .int 0]))]) sz) := by
  refine Met.ofW (cc := cX7_init) (maxL := 1) (ret := none) (by decide) rfl ?_
  intro p e s m args below meth c s₁ B hml hv
  obtain ⟨rfl, hsz, hP, hK, hD0, hN⟩ := hv
  have hx := B.exec
  have hb := B.bytes
  have hr := B.returns
  have hts := atoms_spec (ws := wsX7_init) B.pre
  have hown : s.vm.findClass RX7 = some m.cls := findClass_of_methodNamed B.named
  have hlocks := B.notSynchronized
  have hin : meth.name = "<init>" := (name_of_methodNamed B.named B.method).1
  subst hsz
  have hD := hD0.self (sz := s.heap.size)
  generalize hAe : va_A ([(o1, .inr (7, [.null, .null, .int 0, .int 0]))]) s.heap.size = A at hD ⊢
  have hA : ∀ q : Nat, s.heap.size ≤ q → A q := fun q h => by rw [← hAe]; exact Or.inr h
  have hS : va_S A s.heap s.heap [] := va_S.rf
  have hP : va_P (dC, dI) vwCl ([(o1, .inr (7, [.null, .null, .int 0, .int 0]))]) s.heap := hP
  have hl := lv_entry ([.ref o1]) (n := 1) (Nat.le_of_ble_eq_true rfl)
  rw [lg_entry_eq]
  generalize (lg_sl ([.ref o1]) ++ List.replicate (1 - (lg_sl ([.ref o1])).length) Slot.unset).toArray = ls at hl ⊢
  have hl : lv_has ls 1 [(0, .ref o1)] := hl
  refine gen_Q (fun Q hQ => ?_)
  refine lv_aload_n hx hb dX7_init_0 rfl (lv_at hl 0 rfl) ?_
  refine W.objInit hx hb hown (hts (.methodLink RX7 3 objectInit) hm_X7_init_1) (hts (.instanceMethod objectInit) hm_X7_init_2) (hts (.code objectInit ⟨#[0xb1]⟩ 1 none) hm_X7_init_3) rfl (by rw [hml]; exact hl.1) rfl dX7_init_1 (Nat.le_of_ble_eq_true rfl) (Nat.le_of_ble_eq_true rfl) ?_
  refine W.eq (g2 := F0 m 4 ls []) rfl ?_
  refine lv_aload_n hx hb dX7_init_4 rfl (lv_at hl 0 rfl) ?_
  refine lv_bipush (v := 12) hx hb dX7_init_5 (by decide) ?_
  refine va_newa (atype := .int) (ty := .int) (N' := 12) (a0 := (12, .inl (fun _ => 0))) hx hb (hts (.arrayClass .int) hm_X7_init_4) rfl hK hP hD hS hA (fun _ => rfl) (by decide +kernel) (by decide +kernel) (by decide +kernel) (Nat.le_of_ble_eq_true rfl) (Nat.le_of_ble_eq_true rfl) dX7_init_7 (fun q1 cA H hK1 hP hD hS => ?_)
  refine W.widen (k := 1) (n := 12) (by decide) (by decide) ?_
  have e9 : cI = cA := K3_int hK1
  subst e9
  obtain ⟨f2, f2_e⟩ : ∃ g : Nat → Int32, g = fun _ => 0 := ⟨_, rfl⟩
  rw [← f2_e] at hP hD
  have hP : va_P (dC, dI) vwCl ([(o1, .inr (7, [.null, .null, .int 0, .int 0])), (q1, .inl (cI, 12, .inl f2))]) H := hP
  have hD : va_D A ([(o1, .inr (7, [.null, .null, .int 0, .int 0])), (q1, .inl (cI, 12, .inl f2))]) := hD
  refine va_putF (D := (dC, dI)) (ci := 7) (v := .ref q1) (ty := .array .int) (C := RX7) (T := TX7) (N := 4) hx hb hts iw_X7_init_X7 tyX7 tyX7_ok nmX7 hown hK hP hD hS 0 rfl rfl 0 (by decide) (hts (.fieldLink RX7 9 "HolelessHouse$Paint" "hues" "[I") hm_X7_init_5) (fun _ h9 => h9) rfl hin rfl (by decide +kernel) rfl rfl (Nat.le_of_ble_eq_true rfl) dX7_init_9 (fun H locs hP hD hS => ?_)
  have hP : va_P (dC, dI) vwCl ([(o1, .inr (7, [.ref q1, .null, .int 0, .int 0])), (q1, .inl (cI, 12, .inl f2))]) H := hP
  have hD : va_D A ([(o1, .inr (7, [.ref q1, .null, .int 0, .int 0])), (q1, .inl (cI, 12, .inl f2))]) := hD
  refine lv_aload_n hx hb dX7_init_12 rfl (lv_at hl 0 rfl) ?_
  refine lv_bipush (v := 12) hx hb dX7_init_13 (by decide) ?_
  refine va_newa (atype := .int) (ty := .int) (N' := 12) (a0 := (12, .inl (fun _ => 0))) hx hb (hts (.arrayClass .int) hm_X7_init_4) rfl hK hP hD hS hA (fun _ => rfl) (by decide +kernel) (by decide +kernel) (by decide +kernel) (Nat.le_of_ble_eq_true rfl) (Nat.le_of_ble_eq_true rfl) dX7_init_15 (fun q3 cA H hK1 hP hD hS => ?_)
  refine W.widen (k := 2) (n := 24) (by decide) (by decide) ?_
  have e9 : cI = cA := K3_int hK1
  subst e9
  obtain ⟨f4, f4_e⟩ : ∃ g : Nat → Int32, g = fun _ => 0 := ⟨_, rfl⟩
  rw [← f4_e] at hP hD
  have hP : va_P (dC, dI) vwCl ([(o1, .inr (7, [.ref q1, .null, .int 0, .int 0])), (q1, .inl (cI, 12, .inl f2)), (q3, .inl (cI, 12, .inl f4))]) H := hP
  have hD : va_D A ([(o1, .inr (7, [.ref q1, .null, .int 0, .int 0])), (q1, .inl (cI, 12, .inl f2)), (q3, .inl (cI, 12, .inl f4))]) := hD
  refine va_putF (D := (dC, dI)) (ci := 7) (v := .ref q3) (ty := .array .int) (C := RX7) (T := TX7) (N := 4) hx hb hts iw_X7_init_X7 tyX7 tyX7_ok nmX7 hown hK hP hD hS 0 rfl rfl 1 (by decide) (hts (.fieldLink RX7 15 "HolelessHouse$Paint" "worn" "[I") hm_X7_init_6) (fun _ h9 => h9) rfl hin rfl (by decide +kernel) rfl rfl (Nat.le_of_ble_eq_true rfl) dX7_init_17 (fun H locs hP hD hS => ?_)
  have hP : va_P (dC, dI) vwCl ([(o1, .inr (7, [.ref q1, .ref q3, .int 0, .int 0])), (q1, .inl (cI, 12, .inl f2)), (q3, .inl (cI, 12, .inl f4))]) H := hP
  have hD : va_D A ([(o1, .inr (7, [.ref q1, .ref q3, .int 0, .int 0])), (q1, .inl (cI, 12, .inl f2)), (q3, .inl (cI, 12, .inl f4))]) := hD
  refine lv_aload_n hx hb dX7_init_20 rfl (lv_at hl 0 rfl) ?_
  refine lv_iconst (v := 0) hx hb dX7_init_21 (by decide) ?_
  refine va_put (D := (dC, dI)) (ci := 7) (v := .int 0) (ty := .int) (C := RX7) (T := TX7) (N := 4) hx hb hts iw_X7_init_X7 tyX7 tyX7_ok nmX7 hown hK hP hD hS 0 rfl rfl 2 (by decide) (hts (.fieldLink RX7 18 "HolelessHouse$Paint" "most" "I") hm_X7_init_7) (fun _ h9 => h9) rfl (by decide +kernel) rfl rfl (Nat.le_of_ble_eq_true rfl) dX7_init_22 (fun H locs hP hD hS => ?_)
  have hP : va_P (dC, dI) vwCl ([(o1, .inr (7, [.ref q1, .ref q3, .int 0, .int 0])), (q1, .inl (cI, 12, .inl f2)), (q3, .inl (cI, 12, .inl f4))]) H := hP
  have hD : va_D A ([(o1, .inr (7, [.ref q1, .ref q3, .int 0, .int 0])), (q1, .inl (cI, 12, .inl f2)), (q3, .inl (cI, 12, .inl f4))]) := hD
  refine lv_aload_n hx hb dX7_init_25 rfl (lv_at hl 0 rfl) ?_
  refine lv_iconst (v := (-1)) hx hb dX7_init_26 (by decide) ?_
  refine va_put (D := (dC, dI)) (ci := 7) (v := .int (-1)) (ty := .int) (C := RX7) (T := TX7) (N := 4) hx hb hts iw_X7_init_X7 tyX7 tyX7_ok nmX7 hown hK hP hD hS 0 rfl rfl 3 (by decide) (hts (.fieldLink RX7 22 "HolelessHouse$Paint" "madeFor" "I") hm_X7_init_8) (fun _ h9 => h9) rfl (by decide +kernel) rfl rfl (Nat.le_of_ble_eq_true rfl) dX7_init_27 (fun H locs hP hD hS => ?_)
  have hP : va_P (dC, dI) vwCl ([(o1, .inr (7, [.ref q1, .ref q3, .int 0, .int (-1)])), (q1, .inl (cI, 12, .inl f2)), (q3, .inl (cI, 12, .inl f4))]) H := hP
  have hD : va_D A ([(o1, .inr (7, [.ref q1, .ref q3, .int 0, .int (-1)])), (q1, .inl (cI, 12, .inl f2)), (q3, .inl (cI, 12, .inl f4))]) := hD
  rw [hQ]
  exact W.vret hx hb hr (fun t ht hW => ⟨⟨((-1), q1, q3, f2, f4), rfl, trivial, by rw [ht]; exact hP, va_K.moved hW.alike hK, hD⟩, hS.F ht⟩) hS.2.2 dX7_init_30
theorem iw_X8_init_X8 : ∀ w ∈ wsX80, w ∈ wsX8_init := fun _ h => List.mem_cons.mpr (Or.inr (List.mem_append.mpr (Or.inr h)))
set_option maxHeartbeats 4000000 in
set_option maxRecDepth 100000 in
theorem kX8_init_1 (l : Launch) (dC : Nat → ClassId) (dI : Nat → Nat → Nat) (cI c2 cZ : ClassId) (o1 : Nat) (sz : Nat) : Met l yX8_init wsX8_init ({ frames := 1, cells := 1, slots := 252, locals := 12 }) (va_Pc [.ref o1] (wPre (dC, dI) [(cI, .int), (c2, .array .int), (cZ, .boolean)] ([(o1, .inr (8, [.null, .int 0, .int 0, .int 0, .int 0]))]) sz)) (va_Qv (fun (u : Int32 × Int32 × Int32 × Nat × (Nat → Int32)) => Iv (-1) (-1) u.2.1 ∧ Iv (-1) (-1) u.2.2.1) (fun u t => wPost (dC, dI) [(cI, .int), (c2, .array .int), (cZ, .boolean)] (va_A ([(o1, .inr (8, [.null, .int 0, .int 0, .int 0, .int 0]))]) sz) ([(o1, .inr (8, [.ref u.2.2.2.1, .int 0, .int u.1, .int u.2.1, .int u.2.2.1])), (u.2.2.2.1, .inl (cI, 252, .inl u.2.2.2.2))]) t) (va_A ([(o1, .inr (8, [.null, .int 0, .int 0, .int 0, .int 0]))]) sz)) 1 252 (va_A ([(o1, .inr (8, [.null, .int 0, .int 0, .int 0, .int 0]))]) sz) := by
  refine Met.ofW (cc := cX8_init) (maxL := 1) (ret := none) (by decide) rfl ?_
  intro p e s m args below meth c s₁ B hml hv
  obtain ⟨rfl, hsz, hP, hK, hD0, hN⟩ := hv
  have hx := B.exec
  have hb := B.bytes
  have hr := B.returns
  have hts := atoms_spec (ws := wsX8_init) B.pre
  have hown : s.vm.findClass RX8 = some m.cls := findClass_of_methodNamed B.named
  have hlocks := B.notSynchronized
  have hin : meth.name = "<init>" := (name_of_methodNamed B.named B.method).1
  subst hsz
  have hD := hD0.self (sz := s.heap.size)
  generalize hAe : va_A ([(o1, .inr (8, [.null, .int 0, .int 0, .int 0, .int 0]))]) s.heap.size = A at hD ⊢
  have hA : ∀ q : Nat, s.heap.size ≤ q → A q := fun q h => by rw [← hAe]; exact Or.inr h
  have hS : va_S A s.heap s.heap [] := va_S.rf
  have hP : va_P (dC, dI) vwCl ([(o1, .inr (8, [.null, .int 0, .int 0, .int 0, .int 0]))]) s.heap := hP
  have hl := lv_entry ([.ref o1]) (n := 1) (Nat.le_of_ble_eq_true rfl)
  rw [lg_entry_eq]
  generalize (lg_sl ([.ref o1]) ++ List.replicate (1 - (lg_sl ([.ref o1])).length) Slot.unset).toArray = ls at hl ⊢
  have hl : lv_has ls 1 [(0, .ref o1)] := hl
  refine gen_Q (fun Q hQ => ?_)
  refine lv_aload_n hx hb dX8_init_0 rfl (lv_at hl 0 rfl) ?_
  refine W.objInit hx hb hown (hts (.methodLink RX8 3 objectInit) hm_X8_init_1) (hts (.instanceMethod objectInit) hm_X8_init_2) (hts (.code objectInit ⟨#[0xb1]⟩ 1 none) hm_X8_init_3) rfl (by rw [hml]; exact hl.1) rfl dX8_init_1 (Nat.le_of_ble_eq_true rfl) (Nat.le_of_ble_eq_true rfl) ?_
  refine W.eq (g2 := F0 m 4 ls []) rfl ?_
  refine lv_aload_n hx hb dX8_init_4 rfl (lv_at hl 0 rfl) ?_
  refine lv_sipush (v := 252) hx hb dX8_init_5 (by decide) ?_
  refine va_newa (atype := .int) (ty := .int) (N' := 252) (a0 := (252, .inl (fun _ => 0))) hx hb (hts (.arrayClass .int) hm_X8_init_4) rfl hK hP hD hS hA (fun _ => rfl) (by decide +kernel) (by decide +kernel) (by decide +kernel) (Nat.le_of_ble_eq_true rfl) (Nat.le_of_ble_eq_true rfl) dX8_init_8 (fun q1 cA H hK1 hP hD hS => ?_)
  refine W.widen (k := 1) (n := 252) (by decide) (by decide) ?_
  have e9 : cI = cA := K3_int hK1
  subst e9
  obtain ⟨f2, f2_e⟩ : ∃ g : Nat → Int32, g = fun _ => 0 := ⟨_, rfl⟩
  rw [← f2_e] at hP hD
  have hP : va_P (dC, dI) vwCl ([(o1, .inr (8, [.null, .int 0, .int 0, .int 0, .int 0])), (q1, .inl (cI, 252, .inl f2))]) H := hP
  have hD : va_D A ([(o1, .inr (8, [.null, .int 0, .int 0, .int 0, .int 0])), (q1, .inl (cI, 252, .inl f2))]) := hD
  refine va_putF (D := (dC, dI)) (ci := 8) (v := .ref q1) (ty := .array .int) (C := RX8) (T := TX8) (N := 5) hx hb hts iw_X8_init_X8 tyX8 tyX8_ok nmX8 hown hK hP hD hS 0 rfl rfl 0 (by decide) (hts (.fieldLink RX8 9 "HolelessHouse$Parts" "sets" "[I") hm_X8_init_5) (fun _ h9 => h9) rfl hin rfl (by decide +kernel) rfl rfl (Nat.le_of_ble_eq_true rfl) dX8_init_10 (fun H locs hP hD hS => ?_)
  have hP : va_P (dC, dI) vwCl ([(o1, .inr (8, [.ref q1, .int 0, .int 0, .int 0, .int 0])), (q1, .inl (cI, 252, .inl f2))]) H := hP
  have hD : va_D A ([(o1, .inr (8, [.ref q1, .int 0, .int 0, .int 0, .int 0])), (q1, .inl (cI, 252, .inl f2))]) := hD
  refine lv_aload_n hx hb dX8_init_13 rfl (lv_at hl 0 rfl) ?_
  refine lv_iconst (v := 0) hx hb dX8_init_14 (by decide) ?_
  refine va_put (D := (dC, dI)) (ci := 8) (v := .int 0) (ty := .int) (C := RX8) (T := TX8) (N := 5) hx hb hts iw_X8_init_X8 tyX8 tyX8_ok nmX8 hown hK hP hD hS 0 rfl rfl 1 (by decide) (hts (.fieldLink RX8 15 "HolelessHouse$Parts" "size" "I") hm_X8_init_6) (fun _ h9 => h9) rfl (by decide +kernel) rfl rfl (Nat.le_of_ble_eq_true rfl) dX8_init_15 (fun H locs hP hD hS => ?_)
  have hP : va_P (dC, dI) vwCl ([(o1, .inr (8, [.ref q1, .int 0, .int 0, .int 0, .int 0])), (q1, .inl (cI, 252, .inl f2))]) H := hP
  have hD : va_D A ([(o1, .inr (8, [.ref q1, .int 0, .int 0, .int 0, .int 0])), (q1, .inl (cI, 252, .inl f2))]) := hD
  refine lv_aload_n hx hb dX8_init_18 rfl (lv_at hl 0 rfl) ?_
  refine lv_iconst (v := (-1)) hx hb dX8_init_19 (by decide) ?_
  refine va_put (D := (dC, dI)) (ci := 8) (v := .int (-1)) (ty := .int) (C := RX8) (T := TX8) (N := 5) hx hb hts iw_X8_init_X8 tyX8 tyX8_ok nmX8 hown hK hP hD hS 0 rfl rfl 2 (by decide) (hts (.fieldLink RX8 19 "HolelessHouse$Parts" "madeFor" "I") hm_X8_init_7) (fun _ h9 => h9) rfl (by decide +kernel) rfl rfl (Nat.le_of_ble_eq_true rfl) dX8_init_20 (fun H locs hP hD hS => ?_)
  have hP : va_P (dC, dI) vwCl ([(o1, .inr (8, [.ref q1, .int 0, .int (-1), .int 0, .int 0])), (q1, .inl (cI, 252, .inl f2))]) H := hP
  have hD : va_D A ([(o1, .inr (8, [.ref q1, .int 0, .int (-1), .int 0, .int 0])), (q1, .inl (cI, 252, .inl f2))]) := hD
  refine lv_aload_n hx hb dX8_init_23 rfl (lv_at hl 0 rfl) ?_
  refine lv_iconst (v := (-1)) hx hb dX8_init_24 (by decide) ?_
  refine va_put (D := (dC, dI)) (ci := 8) (v := .int (-1)) (ty := .int) (C := RX8) (T := TX8) (N := 5) hx hb hts iw_X8_init_X8 tyX8 tyX8_ok nmX8 hown hK hP hD hS 0 rfl rfl 3 (by decide) (hts (.fieldLink RX8 22 "HolelessHouse$Parts" "one" "I") hm_X8_init_8) (fun _ h9 => h9) rfl (by decide +kernel) rfl rfl (Nat.le_of_ble_eq_true rfl) dX8_init_25 (fun H locs hP hD hS => ?_)
  have hP : va_P (dC, dI) vwCl ([(o1, .inr (8, [.ref q1, .int 0, .int (-1), .int (-1), .int 0])), (q1, .inl (cI, 252, .inl f2))]) H := hP
  have hD : va_D A ([(o1, .inr (8, [.ref q1, .int 0, .int (-1), .int (-1), .int 0])), (q1, .inl (cI, 252, .inl f2))]) := hD
  refine lv_aload_n hx hb dX8_init_28 rfl (lv_at hl 0 rfl) ?_
  refine lv_iconst (v := (-1)) hx hb dX8_init_29 (by decide) ?_
  refine va_put (D := (dC, dI)) (ci := 8) (v := .int (-1)) (ty := .int) (C := RX8) (T := TX8) (N := 5) hx hb hts iw_X8_init_X8 tyX8 tyX8_ok nmX8 hown hK hP hD hS 0 rfl rfl 4 (by decide) (hts (.fieldLink RX8 25 "HolelessHouse$Parts" "other" "I") hm_X8_init_9) (fun _ h9 => h9) rfl (by decide +kernel) rfl rfl (Nat.le_of_ble_eq_true rfl) dX8_init_30 (fun H locs hP hD hS => ?_)
  have hP : va_P (dC, dI) vwCl ([(o1, .inr (8, [.ref q1, .int 0, .int (-1), .int (-1), .int (-1)])), (q1, .inl (cI, 252, .inl f2))]) H := hP
  have hD : va_D A ([(o1, .inr (8, [.ref q1, .int 0, .int (-1), .int (-1), .int (-1)])), (q1, .inl (cI, 252, .inl f2))]) := hD
  rw [hQ]
  exact W.vret hx hb hr (fun t ht hW => ⟨⟨((-1), (-1), (-1), q1, f2), rfl, ⟨ikm_1, ikm_1⟩, by rw [ht]; exact hP, va_K.moved hW.alike hK, hD⟩, hS.F ht⟩) hS.2.2 dX8_init_33
theorem iw_X2_init_X2 : ∀ w ∈ wsX20, w ∈ wsX2_init := fun _ h => List.mem_cons.mpr (Or.inr (List.mem_append.mpr (Or.inr h)))
set_option maxHeartbeats 4000000 in
set_option maxRecDepth 100000 in
theorem kX2_init_1 (l : Launch) (dC : Nat → ClassId) (dI : Nat → Nat → Nat) (cI c2 cZ : ClassId) (o1 : Nat) (sz : Nat) : Met l yX2_init wsX2_init ({ frames := 1, cells := 14, slots := 159, locals := 12 }) (va_Pc [.ref o1] (wPre (dC, dI) [(cI, .int), (c2, .array .int), (cZ, .boolean)] ([(o1, .inr (2, [.null, .null, .int 0, .int 0]))]) sz)) (va_Qv (fun (u : Int32 × Nat × (Nat → Nat) × Nat × (Nat → Nat → Int32) × (Nat → Int32)) => True) (fun u t => wPost (dC, dI) [(cI, .int), (c2, .array .int), (cZ, .boolean)] (va_A ([(o1, .inr (2, [.null, .null, .int 0, .int 0]))]) sz) (([(o1, .inr (2, [.ref u.2.1, .ref u.2.2.2.1, .int 0, .int u.1])), (u.2.1, .inl (c2, 12, .inr (.inr (.inr (.inr (fun i => if i < 12 then some (u.2.2.1 i) else none)))))), (u.2.2.2.1, .inl (cI, 3, .inl u.2.2.2.2.2))] : va_W) ++ (gr12 u.2.2.1 cI 12 u.2.2.2.2.1 ++ ([] : va_W))) t) (va_A ([(o1, .inr (2, [.null, .null, .int 0, .int 0]))]) sz)) 14 159 (va_A ([(o1, .inr (2, [.null, .null, .int 0, .int 0]))]) sz) := by
  refine Met.ofW (cc := cX2_init) (maxL := 1) (ret := none) (by decide) rfl ?_
  intro p e s m args below meth c s₁ B hml hv
  obtain ⟨rfl, hsz, hP, hK, hD0, hN⟩ := hv
  have hx := B.exec
  have hb := B.bytes
  have hr := B.returns
  have hts := atoms_spec (ws := wsX2_init) B.pre
  have hown : s.vm.findClass RX2 = some m.cls := findClass_of_methodNamed B.named
  have hlocks := B.notSynchronized
  have hin : meth.name = "<init>" := (name_of_methodNamed B.named B.method).1
  subst hsz
  have hD := hD0.self (sz := s.heap.size)
  generalize hAe : va_A ([(o1, .inr (2, [.null, .null, .int 0, .int 0]))]) s.heap.size = A at hD ⊢
  have hA : ∀ q : Nat, s.heap.size ≤ q → A q := fun q h => by rw [← hAe]; exact Or.inr h
  have hS : va_S A s.heap s.heap [] := va_S.rf
  have hP : va_P (dC, dI) vwCl ([(o1, .inr (2, [.null, .null, .int 0, .int 0]))]) s.heap := hP
  have hl := lv_entry ([.ref o1]) (n := 1) (Nat.le_of_ble_eq_true rfl)
  rw [lg_entry_eq]
  generalize (lg_sl ([.ref o1]) ++ List.replicate (1 - (lg_sl ([.ref o1])).length) Slot.unset).toArray = ls at hl ⊢
  have hl : lv_has ls 1 [(0, .ref o1)] := hl
  refine gen_Q (fun Q hQ => ?_)
  refine lv_aload_n hx hb dX2_init_0 rfl (lv_at hl 0 rfl) ?_
  refine W.objInit hx hb hown (hts (.methodLink RX2 3 objectInit) hm_X2_init_1) (hts (.instanceMethod objectInit) hm_X2_init_2) (hts (.code objectInit ⟨#[0xb1]⟩ 1 none) hm_X2_init_3) rfl (by rw [hml]; exact hl.1) rfl dX2_init_1 (Nat.le_of_ble_eq_true rfl) (Nat.le_of_ble_eq_true rfl) ?_
  refine W.eq (g2 := F0 m 4 ls []) rfl ?_
  refine lv_aload_n hx hb dX2_init_4 rfl (lv_at hl 0 rfl) ?_
  refine lv_bipush (v := 12) hx hb dX2_init_5 (by decide) ?_
  refine lv_bipush (v := 12) hx hb dX2_init_7 (by decide) ?_
  refine mnaG12 (cI := cI) (c2 := c2) (cZ := cZ) (K' := 12) hx hb hown (hts (.classLink RX2 9 "[[I") hm_X2_init_4) hN.2 (hts (.arrayClass .int) hm_X2_init_5) hK rfl hP hD hS hA (by decide +kernel) (by decide +kernel) (by decide +kernel) (by decide +kernel) (by decide) (by decide) (by decide) (Nat.le_of_ble_eq_true rfl) (Nat.le_of_ble_eq_true rfl) dX2_init_9 (fun q1 r2 G3 H G3_e hP hD hS => ?_)
  refine W.widen (k := 13) (n := 156) (by decide) (by decide) ?_
  have hP : va_P (dC, dI) vwCl (([(o1, .inr (2, [.null, .null, .int 0, .int 0])), (q1, .inl (c2, 12, .inr (.inr (.inr (.inr (fun i => if i < 12 then some (r2 i) else none))))))] : va_W) ++ (gr12 r2 cI 12 G3 ++ ([] : va_W))) H := hP
  have hD : va_D A (([(o1, .inr (2, [.null, .null, .int 0, .int 0])), (q1, .inl (c2, 12, .inr (.inr (.inr (.inr (fun i => if i < 12 then some (r2 i) else none))))))] : va_W) ++ (gr12 r2 cI 12 G3 ++ ([] : va_W))) := hD
  refine va_putF (D := (dC, dI)) (ci := 2) (v := .ref q1) (ty := .array (.array .int)) (C := RX2) (T := TX2) (N := 4) hx hb hts iw_X2_init_X2 tyX2 tyX2_ok nmX2 hown hK hP hD hS 0 rfl rfl 0 (by decide) (hts (.fieldLink RX2 11 "HolelessHouse$FarThree" "clear" "[[I") hm_X2_init_6) (fun _ h9 => h9) rfl hin rfl (by decide +kernel) rfl rfl (Nat.le_of_ble_eq_true rfl) dX2_init_13 (fun H locs hP hD hS => ?_)
  have hP : va_P (dC, dI) vwCl (([(o1, .inr (2, [.ref q1, .null, .int 0, .int 0])), (q1, .inl (c2, 12, .inr (.inr (.inr (.inr (fun i => if i < 12 then some (r2 i) else none))))))] : va_W) ++ (gr12 r2 cI 12 G3 ++ ([] : va_W))) H := hP
  have hD : va_D A (([(o1, .inr (2, [.ref q1, .null, .int 0, .int 0])), (q1, .inl (c2, 12, .inr (.inr (.inr (.inr (fun i => if i < 12 then some (r2 i) else none))))))] : va_W) ++ (gr12 r2 cI 12 G3 ++ ([] : va_W))) := hD
  refine lv_aload_n hx hb dX2_init_16 rfl (lv_at hl 0 rfl) ?_
  refine lv_iconst (v := 3) hx hb dX2_init_17 (by decide) ?_
  refine va_newa (atype := .int) (ty := .int) (N' := 3) (a0 := (3, .inl (fun _ => 0))) hx hb (hts (.arrayClass .int) hm_X2_init_5) rfl hK hP hD hS hA (fun _ => rfl) (by decide +kernel) (by decide +kernel) (by decide +kernel) (Nat.le_of_ble_eq_true rfl) (Nat.le_of_ble_eq_true rfl) dX2_init_18 (fun q4 cA H hK1 hP hD hS => ?_)
  refine W.widen (k := 14) (n := 159) (by decide) (by decide) ?_
  have e9 : cI = cA := K3_int hK1
  subst e9
  obtain ⟨f5, f5_e⟩ : ∃ g : Nat → Int32, g = fun _ => 0 := ⟨_, rfl⟩
  rw [← f5_e] at hP hD
  have hP := hP.sub (ws' := ([(o1, .inr (2, [.ref q1, .null, .int 0, .int 0])), (q1, .inl (c2, 12, .inr (.inr (.inr (.inr (fun i => if i < 12 then some (r2 i) else none)))))), (q4, .inl (cI, 3, .inl f5))] : va_W) ++ (gr12 r2 cI 12 G3 ++ ([] : va_W))) [0, 1, 14, 2, 3, 4, 5, 6, 7, 8, 9, 10, 11, 12, 13] rfl
  have hD := hD.sub (ws' := ([(o1, .inr (2, [.ref q1, .null, .int 0, .int 0])), (q1, .inl (c2, 12, .inr (.inr (.inr (.inr (fun i => if i < 12 then some (r2 i) else none)))))), (q4, .inl (cI, 3, .inl f5))] : va_W) ++ (gr12 r2 cI 12 G3 ++ ([] : va_W))) [0, 1, 14, 2, 3, 4, 5, 6, 7, 8, 9, 10, 11, 12, 13] (by decide) rfl
  refine va_putF (D := (dC, dI)) (ci := 2) (v := .ref q4) (ty := .array .int) (C := RX2) (T := TX2) (N := 4) hx hb hts iw_X2_init_X2 tyX2 tyX2_ok nmX2 hown hK hP hD hS 0 rfl rfl 1 (by decide) (hts (.fieldLink RX2 16 "HolelessHouse$FarThree" "three" "[I") hm_X2_init_7) (fun _ h9 => h9) rfl hin rfl (by decide +kernel) rfl rfl (Nat.le_of_ble_eq_true rfl) dX2_init_20 (fun H locs hP hD hS => ?_)
  have hP : va_P (dC, dI) vwCl (([(o1, .inr (2, [.ref q1, .ref q4, .int 0, .int 0])), (q1, .inl (c2, 12, .inr (.inr (.inr (.inr (fun i => if i < 12 then some (r2 i) else none)))))), (q4, .inl (cI, 3, .inl f5))] : va_W) ++ (gr12 r2 cI 12 G3 ++ ([] : va_W))) H := hP
  have hD : va_D A (([(o1, .inr (2, [.ref q1, .ref q4, .int 0, .int 0])), (q1, .inl (c2, 12, .inr (.inr (.inr (.inr (fun i => if i < 12 then some (r2 i) else none)))))), (q4, .inl (cI, 3, .inl f5))] : va_W) ++ (gr12 r2 cI 12 G3 ++ ([] : va_W))) := hD
  refine lv_aload_n hx hb dX2_init_23 rfl (lv_at hl 0 rfl) ?_
  refine lv_iconst (v := 0) hx hb dX2_init_24 (by decide) ?_
  refine va_put (D := (dC, dI)) (ci := 2) (v := .int 0) (ty := .boolean) (C := RX2) (T := TX2) (N := 4) hx hb hts iw_X2_init_X2 tyX2 tyX2_ok nmX2 hown hK hP hD hS 0 rfl rfl 2 (by decide) (hts (.fieldLink RX2 20 "HolelessHouse$FarThree" "there" "Z") hm_X2_init_8) (fun _ h9 => h9) rfl (by decide +kernel) rfl rfl (Nat.le_of_ble_eq_true rfl) dX2_init_25 (fun H locs hP hD hS => ?_)
  have hP : va_P (dC, dI) vwCl (([(o1, .inr (2, [.ref q1, .ref q4, .int 0, .int 0])), (q1, .inl (c2, 12, .inr (.inr (.inr (.inr (fun i => if i < 12 then some (r2 i) else none)))))), (q4, .inl (cI, 3, .inl f5))] : va_W) ++ (gr12 r2 cI 12 G3 ++ ([] : va_W))) H := hP
  have hD : va_D A (([(o1, .inr (2, [.ref q1, .ref q4, .int 0, .int 0])), (q1, .inl (c2, 12, .inr (.inr (.inr (.inr (fun i => if i < 12 then some (r2 i) else none)))))), (q4, .inl (cI, 3, .inl f5))] : va_W) ++ (gr12 r2 cI 12 G3 ++ ([] : va_W))) := hD
  refine lv_aload_n hx hb dX2_init_28 rfl (lv_at hl 0 rfl) ?_
  refine lv_iconst (v := (-1)) hx hb dX2_init_29 (by decide) ?_
  refine va_put (D := (dC, dI)) (ci := 2) (v := .int (-1)) (ty := .int) (C := RX2) (T := TX2) (N := 4) hx hb hts iw_X2_init_X2 tyX2 tyX2_ok nmX2 hown hK hP hD hS 0 rfl rfl 3 (by decide) (hts (.fieldLink RX2 24 "HolelessHouse$FarThree" "madeFor" "I") hm_X2_init_9) (fun _ h9 => h9) rfl (by decide +kernel) rfl rfl (Nat.le_of_ble_eq_true rfl) dX2_init_30 (fun H locs hP hD hS => ?_)
  have hP : va_P (dC, dI) vwCl (([(o1, .inr (2, [.ref q1, .ref q4, .int 0, .int (-1)])), (q1, .inl (c2, 12, .inr (.inr (.inr (.inr (fun i => if i < 12 then some (r2 i) else none)))))), (q4, .inl (cI, 3, .inl f5))] : va_W) ++ (gr12 r2 cI 12 G3 ++ ([] : va_W))) H := hP
  have hD : va_D A (([(o1, .inr (2, [.ref q1, .ref q4, .int 0, .int (-1)])), (q1, .inl (c2, 12, .inr (.inr (.inr (.inr (fun i => if i < 12 then some (r2 i) else none)))))), (q4, .inl (cI, 3, .inl f5))] : va_W) ++ (gr12 r2 cI 12 G3 ++ ([] : va_W))) := hD
  rw [hQ]
  exact W.vret hx hb hr (fun t ht hW => ⟨⟨((-1), q1, r2, q4, G3, f5), rfl, trivial, by rw [ht]; exact hP, va_K.moved hW.alike hK, hD⟩, hS.F ht⟩) hS.2.2 dX2_init_33
theorem iw_X0_init_X0 : ∀ w ∈ wsX00, w ∈ wsX0_init := fun _ h => List.mem_cons.mpr (Or.inr (List.mem_append.mpr (Or.inr h)))
set_option maxHeartbeats 4000000 in
set_option maxRecDepth 100000 in
theorem kX0_init_1 (l : Launch) (dC : Nat → ClassId) (dI : Nat → Nat → Nat) (cI c2 cZ : ClassId) (o1 : Nat) (sz : Nat) : Met l yX0_init wsX0_init ({ frames := 1, cells := 3, slots := 4120, locals := 15 }) (va_Pc [.ref o1, .int 12] (wPre (dC, dI) [(cI, .int), (c2, .array .int), (cZ, .boolean)] ([(o1, .inr (0, [.null, .null, .null, .int 0, .int 0, .int 0, .int 0, .int 0]))]) sz)) (va_Qv (fun (u : Int32 × Nat × Nat × Nat × (Nat → Int32) × (Nat → Int32) × (Nat → Int32)) => True) (fun u t => wPost (dC, dI) [(cI, .int), (c2, .array .int), (cZ, .boolean)] (va_A ([(o1, .inr (0, [.null, .null, .null, .int 0, .int 0, .int 0, .int 0, .int 0]))]) sz) ([(o1, .inr (0, [.ref u.2.2.1, .ref u.2.1, .ref u.2.2.2.1, .int 0, .int 0, .int 0, .int 0, .int u.1])), (u.2.1, .inl (cI, 12, .inl u.2.2.2.2.1)), (u.2.2.1, .inl (cI, 4096, .inl u.2.2.2.2.2.1)), (u.2.2.2.1, .inl (cI, 12, .inl u.2.2.2.2.2.2))]) t) (va_A ([(o1, .inr (0, [.null, .null, .null, .int 0, .int 0, .int 0, .int 0, .int 0]))]) sz)) 3 4120 (va_A ([(o1, .inr (0, [.null, .null, .null, .int 0, .int 0, .int 0, .int 0, .int 0]))]) sz) := by
  refine Met.ofW (cc := cX0_init) (maxL := 2) (ret := none) (by decide) rfl ?_
  intro p e s m args below meth c s₁ B hml hv
  obtain ⟨rfl, hsz, hP, hK, hD0, hN⟩ := hv
  have hx := B.exec
  have hb := B.bytes
  have hr := B.returns
  have hts := atoms_spec (ws := wsX0_init) B.pre
  have hown : s.vm.findClass RX0 = some m.cls := findClass_of_methodNamed B.named
  have hlocks := B.notSynchronized
  have hin : meth.name = "<init>" := (name_of_methodNamed B.named B.method).1
  subst hsz
  have hD := hD0.self (sz := s.heap.size)
  generalize hAe : va_A ([(o1, .inr (0, [.null, .null, .null, .int 0, .int 0, .int 0, .int 0, .int 0]))]) s.heap.size = A at hD ⊢
  have hA : ∀ q : Nat, s.heap.size ≤ q → A q := fun q h => by rw [← hAe]; exact Or.inr h
  have hS : va_S A s.heap s.heap [] := va_S.rf
  have hP : va_P (dC, dI) vwCl ([(o1, .inr (0, [.null, .null, .null, .int 0, .int 0, .int 0, .int 0, .int 0]))]) s.heap := hP
  have hl := lv_entry ([.ref o1, .int 12]) (n := 2) (Nat.le_of_ble_eq_true rfl)
  rw [lg_entry_eq]
  generalize (lg_sl ([.ref o1, .int 12]) ++ List.replicate (2 - (lg_sl ([.ref o1, .int 12])).length) Slot.unset).toArray = ls at hl ⊢
  have hl : lv_has ls 2 [(0, .ref o1), (1, .int 12)] := hl
  refine gen_Q (fun Q hQ => ?_)
  refine lv_aload_n hx hb dX0_init_0 rfl (lv_at hl 0 rfl) ?_
  refine W.objInit hx hb hown (hts (.methodLink RX0 3 objectInit) hm_X0_init_1) (hts (.instanceMethod objectInit) hm_X0_init_2) (hts (.code objectInit ⟨#[0xb1]⟩ 1 none) hm_X0_init_3) rfl (by rw [hml]; exact hl.1) rfl dX0_init_1 (Nat.le_of_ble_eq_true rfl) (Nat.le_of_ble_eq_true rfl) ?_
  refine W.eq (g2 := F0 m 4 ls []) rfl ?_
  refine lv_aload_n hx hb dX0_init_4 rfl (lv_at hl 0 rfl) ?_
  refine lv_bipush (v := 12) hx hb dX0_init_5 (by decide) ?_
  refine lv_bipush (v := 12) hx hb dX0_init_7 (by decide) ?_
  refine va_mmax hx hb (hml.trans hl.1.symm) hown (hts (.methodLink RX0 9 Lib.Math.max.name) hm_X0_init_4) (hts (.static Lib.Math.max.name) hm_X0_init_5) (hts (.initialized "java/lang/Math") hm_X0_init_6) (hts (.code Lib.Math.max.name Lib.Math.max.code 2 (some .int)) hm_X0_init_7) (Nat.le_of_ble_eq_true rfl) (Nat.le_of_ble_eq_true rfl) (Nat.le_of_ble_eq_true rfl) (Nat.le_of_ble_eq_true rfl) dX0_init_9 (tk_i (v := 12) (by decide +kernel) ?_)
  refine va_newa (atype := .int) (ty := .int) (N' := 12) (a0 := (12, .inl (fun _ => 0))) hx hb (hts (.arrayClass .int) hm_X0_init_8) rfl hK hP hD hS hA (fun _ => rfl) (by decide +kernel) (by decide +kernel) (by decide +kernel) (Nat.le_of_ble_eq_true rfl) (Nat.le_of_ble_eq_true rfl) dX0_init_12 (fun q1 cA H hK1 hP hD hS => ?_)
  refine W.widen (k := 1) (n := 12) (by decide) (by decide) ?_
  have e9 : cI = cA := K3_int hK1
  subst e9
  obtain ⟨f2, f2_e⟩ : ∃ g : Nat → Int32, g = fun _ => 0 := ⟨_, rfl⟩
  rw [← f2_e] at hP hD
  have hP : va_P (dC, dI) vwCl ([(o1, .inr (0, [.null, .null, .null, .int 0, .int 0, .int 0, .int 0, .int 0])), (q1, .inl (cI, 12, .inl f2))]) H := hP
  have hD : va_D A ([(o1, .inr (0, [.null, .null, .null, .int 0, .int 0, .int 0, .int 0, .int 0])), (q1, .inl (cI, 12, .inl f2))]) := hD
  refine va_putF (D := (dC, dI)) (ci := 0) (v := .ref q1) (ty := .array .int) (C := RX0) (T := TX0) (N := 8) hx hb hts iw_X0_init_X0 tyX0 tyX0_ok nmX0 hown hK hP hD hS 0 rfl rfl 1 (by decide) (hts (.fieldLink RX0 15 "HolelessHouse$Benches" "rows" "[I") hm_X0_init_9) (fun _ h9 => h9) rfl hin rfl (by decide +kernel) rfl rfl (Nat.le_of_ble_eq_true rfl) dX0_init_14 (fun H locs hP hD hS => ?_)
  have hP : va_P (dC, dI) vwCl ([(o1, .inr (0, [.null, .ref q1, .null, .int 0, .int 0, .int 0, .int 0, .int 0])), (q1, .inl (cI, 12, .inl f2))]) H := hP
  have hD : va_D A ([(o1, .inr (0, [.null, .ref q1, .null, .int 0, .int 0, .int 0, .int 0, .int 0])), (q1, .inl (cI, 12, .inl f2))]) := hD
  refine lv_aload_n hx hb dX0_init_17 rfl (lv_at hl 0 rfl) ?_
  refine lv_iconst (v := 0) hx hb dX0_init_18 (by decide) ?_
  refine va_put (D := (dC, dI)) (ci := 0) (v := .int 0) (ty := .int) (C := RX0) (T := TX0) (N := 8) hx hb hts iw_X0_init_X0 tyX0 tyX0_ok nmX0 hown hK hP hD hS 0 rfl rfl 3 (by decide) (hts (.fieldLink RX0 21 "HolelessHouse$Benches" "rowCount" "I") hm_X0_init_10) (fun _ h9 => h9) rfl (by decide +kernel) rfl rfl (Nat.le_of_ble_eq_true rfl) dX0_init_19 (fun H locs hP hD hS => ?_)
  have hP : va_P (dC, dI) vwCl ([(o1, .inr (0, [.null, .ref q1, .null, .int 0, .int 0, .int 0, .int 0, .int 0])), (q1, .inl (cI, 12, .inl f2))]) H := hP
  have hD : va_D A ([(o1, .inr (0, [.null, .ref q1, .null, .int 0, .int 0, .int 0, .int 0, .int 0])), (q1, .inl (cI, 12, .inl f2))]) := hD
  refine lv_aload_n hx hb dX0_init_22 rfl (lv_at hl 0 rfl) ?_
  refine lv_iconst (v := 0) hx hb dX0_init_23 (by decide) ?_
  refine va_put (D := (dC, dI)) (ci := 0) (v := .int 0) (ty := .int) (C := RX0) (T := TX0) (N := 8) hx hb hts iw_X0_init_X0 tyX0 tyX0_ok nmX0 hown hK hP hD hS 0 rfl rfl 4 (by decide) (hts (.fieldLink RX0 25 "HolelessHouse$Benches" "width" "I") hm_X0_init_11) (fun _ h9 => h9) rfl (by decide +kernel) rfl rfl (Nat.le_of_ble_eq_true rfl) dX0_init_24 (fun H locs hP hD hS => ?_)
  have hP : va_P (dC, dI) vwCl ([(o1, .inr (0, [.null, .ref q1, .null, .int 0, .int 0, .int 0, .int 0, .int 0])), (q1, .inl (cI, 12, .inl f2))]) H := hP
  have hD : va_D A ([(o1, .inr (0, [.null, .ref q1, .null, .int 0, .int 0, .int 0, .int 0, .int 0])), (q1, .inl (cI, 12, .inl f2))]) := hD
  refine lv_aload_n hx hb dX0_init_27 rfl (lv_at hl 0 rfl) ?_
  refine lv_iconst (v := 0) hx hb dX0_init_28 (by decide) ?_
  refine va_put (D := (dC, dI)) (ci := 0) (v := .int 0) (ty := .int) (C := RX0) (T := TX0) (N := 8) hx hb hts iw_X0_init_X0 tyX0 tyX0_ok nmX0 hown hK hP hD hS 0 rfl rfl 5 (by decide) (hts (.fieldLink RX0 28 "HolelessHouse$Benches" "ways" "I") hm_X0_init_12) (fun _ h9 => h9) rfl (by decide +kernel) rfl rfl (Nat.le_of_ble_eq_true rfl) dX0_init_29 (fun H locs hP hD hS => ?_)
  have hP : va_P (dC, dI) vwCl ([(o1, .inr (0, [.null, .ref q1, .null, .int 0, .int 0, .int 0, .int 0, .int 0])), (q1, .inl (cI, 12, .inl f2))]) H := hP
  have hD : va_D A ([(o1, .inr (0, [.null, .ref q1, .null, .int 0, .int 0, .int 0, .int 0, .int 0])), (q1, .inl (cI, 12, .inl f2))]) := hD
  refine lv_aload_n hx hb dX0_init_32 rfl (lv_at hl 0 rfl) ?_
  refine lv_iconst (v := 0) hx hb dX0_init_33 (by decide) ?_
  refine va_put (D := (dC, dI)) (ci := 0) (v := .int 0) (ty := .boolean) (C := RX0) (T := TX0) (N := 8) hx hb hts iw_X0_init_X0 tyX0 tyX0_ok nmX0 hown hK hP hD hS 0 rfl rfl 6 (by decide) (hts (.fieldLink RX0 31 "HolelessHouse$Benches" "seated" "Z") hm_X0_init_13) (fun _ h9 => h9) rfl (by decide +kernel) rfl rfl (Nat.le_of_ble_eq_true rfl) dX0_init_34 (fun H locs hP hD hS => ?_)
  have hP : va_P (dC, dI) vwCl ([(o1, .inr (0, [.null, .ref q1, .null, .int 0, .int 0, .int 0, .int 0, .int 0])), (q1, .inl (cI, 12, .inl f2))]) H := hP
  have hD : va_D A ([(o1, .inr (0, [.null, .ref q1, .null, .int 0, .int 0, .int 0, .int 0, .int 0])), (q1, .inl (cI, 12, .inl f2))]) := hD
  refine lv_aload_n hx hb dX0_init_37 rfl (lv_at hl 0 rfl) ?_
  refine lv_iconst (v := (-1)) hx hb dX0_init_38 (by decide) ?_
  refine va_put (D := (dC, dI)) (ci := 0) (v := .int (-1)) (ty := .int) (C := RX0) (T := TX0) (N := 8) hx hb hts iw_X0_init_X0 tyX0 tyX0_ok nmX0 hown hK hP hD hS 0 rfl rfl 7 (by decide) (hts (.fieldLink RX0 35 "HolelessHouse$Benches" "madeFor" "I") hm_X0_init_14) (fun _ h9 => h9) rfl (by decide +kernel) rfl rfl (Nat.le_of_ble_eq_true rfl) dX0_init_39 (fun H locs hP hD hS => ?_)
  have hP : va_P (dC, dI) vwCl ([(o1, .inr (0, [.null, .ref q1, .null, .int 0, .int 0, .int 0, .int 0, .int (-1)])), (q1, .inl (cI, 12, .inl f2))]) H := hP
  have hD : va_D A ([(o1, .inr (0, [.null, .ref q1, .null, .int 0, .int 0, .int 0, .int 0, .int (-1)])), (q1, .inl (cI, 12, .inl f2))]) := hD
  refine lv_aload_n hx hb dX0_init_42 rfl (lv_at hl 0 rfl) ?_
  refine lv_iconst (v := 1) hx hb dX0_init_43 (by decide) ?_
  refine lv_iload_n hx hb dX0_init_44 rfl (lv_at hl 1 rfl) ?_
  refine lv_ishl hx hb dX0_init_45 (tk_i (v := 4096) (by decide +kernel) ?_)
  refine va_newa (atype := .int) (ty := .int) (N' := 4096) (a0 := (4096, .inl (fun _ => 0))) hx hb (hts (.arrayClass .int) hm_X0_init_8) rfl hK hP hD hS hA (fun _ => rfl) (by decide +kernel) (by decide +kernel) (by decide +kernel) (Nat.le_of_ble_eq_true rfl) (Nat.le_of_ble_eq_true rfl) dX0_init_46 (fun q3 cA H hK1 hP hD hS => ?_)
  refine W.widen (k := 2) (n := 4108) (by decide) (by decide) ?_
  have e9 : cI = cA := K3_int hK1
  subst e9
  obtain ⟨f4, f4_e⟩ : ∃ g : Nat → Int32, g = fun _ => 0 := ⟨_, rfl⟩
  rw [← f4_e] at hP hD
  have hP : va_P (dC, dI) vwCl ([(o1, .inr (0, [.null, .ref q1, .null, .int 0, .int 0, .int 0, .int 0, .int (-1)])), (q1, .inl (cI, 12, .inl f2)), (q3, .inl (cI, 4096, .inl f4))]) H := hP
  have hD : va_D A ([(o1, .inr (0, [.null, .ref q1, .null, .int 0, .int 0, .int 0, .int 0, .int (-1)])), (q1, .inl (cI, 12, .inl f2)), (q3, .inl (cI, 4096, .inl f4))]) := hD
  refine va_putF (D := (dC, dI)) (ci := 0) (v := .ref q3) (ty := .array .int) (C := RX0) (T := TX0) (N := 8) hx hb hts iw_X0_init_X0 tyX0 tyX0_ok nmX0 hown hK hP hD hS 0 rfl rfl 0 (by decide) (hts (.fieldLink RX0 38 "HolelessHouse$Benches" "notes" "[I") hm_X0_init_15) (fun _ h9 => h9) rfl hin rfl (by decide +kernel) rfl rfl (Nat.le_of_ble_eq_true rfl) dX0_init_48 (fun H locs hP hD hS => ?_)
  have hP : va_P (dC, dI) vwCl ([(o1, .inr (0, [.ref q3, .ref q1, .null, .int 0, .int 0, .int 0, .int 0, .int (-1)])), (q1, .inl (cI, 12, .inl f2)), (q3, .inl (cI, 4096, .inl f4))]) H := hP
  have hD : va_D A ([(o1, .inr (0, [.ref q3, .ref q1, .null, .int 0, .int 0, .int 0, .int 0, .int (-1)])), (q1, .inl (cI, 12, .inl f2)), (q3, .inl (cI, 4096, .inl f4))]) := hD
  refine lv_aload_n hx hb dX0_init_51 rfl (lv_at hl 0 rfl) ?_
  refine lv_iload_n hx hb dX0_init_52 rfl (lv_at hl 1 rfl) ?_
  refine va_newa (atype := .int) (ty := .int) (N' := 12) (a0 := (12, .inl (fun _ => 0))) hx hb (hts (.arrayClass .int) hm_X0_init_8) rfl hK hP hD hS hA (fun _ => rfl) (by decide +kernel) (by decide +kernel) (by decide +kernel) (Nat.le_of_ble_eq_true rfl) (Nat.le_of_ble_eq_true rfl) dX0_init_53 (fun q5 cA H hK1 hP hD hS => ?_)
  refine W.widen (k := 3) (n := 4120) (by decide) (by decide) ?_
  have e9 : cI = cA := K3_int hK1
  subst e9
  obtain ⟨f6, f6_e⟩ : ∃ g : Nat → Int32, g = fun _ => 0 := ⟨_, rfl⟩
  rw [← f6_e] at hP hD
  have hP : va_P (dC, dI) vwCl ([(o1, .inr (0, [.ref q3, .ref q1, .null, .int 0, .int 0, .int 0, .int 0, .int (-1)])), (q1, .inl (cI, 12, .inl f2)), (q3, .inl (cI, 4096, .inl f4)), (q5, .inl (cI, 12, .inl f6))]) H := hP
  have hD : va_D A ([(o1, .inr (0, [.ref q3, .ref q1, .null, .int 0, .int 0, .int 0, .int 0, .int (-1)])), (q1, .inl (cI, 12, .inl f2)), (q3, .inl (cI, 4096, .inl f4)), (q5, .inl (cI, 12, .inl f6))]) := hD
  refine va_putF (D := (dC, dI)) (ci := 0) (v := .ref q5) (ty := .array .int) (C := RX0) (T := TX0) (N := 8) hx hb hts iw_X0_init_X0 tyX0 tyX0_ok nmX0 hown hK hP hD hS 0 rfl rfl 2 (by decide) (hts (.fieldLink RX0 41 "HolelessHouse$Benches" "places" "[I") hm_X0_init_16) (fun _ h9 => h9) rfl hin rfl (by decide +kernel) rfl rfl (Nat.le_of_ble_eq_true rfl) dX0_init_55 (fun H locs hP hD hS => ?_)
  have hP : va_P (dC, dI) vwCl ([(o1, .inr (0, [.ref q3, .ref q1, .ref q5, .int 0, .int 0, .int 0, .int 0, .int (-1)])), (q1, .inl (cI, 12, .inl f2)), (q3, .inl (cI, 4096, .inl f4)), (q5, .inl (cI, 12, .inl f6))]) H := hP
  have hD : va_D A ([(o1, .inr (0, [.ref q3, .ref q1, .ref q5, .int 0, .int 0, .int 0, .int 0, .int (-1)])), (q1, .inl (cI, 12, .inl f2)), (q3, .inl (cI, 4096, .inl f4)), (q5, .inl (cI, 12, .inl f6))]) := hD
  rw [hQ]
  exact W.vret hx hb hr (fun t ht hW => ⟨⟨((-1), q1, q3, q5, f2, f4, f6), rfl, trivial, by rw [ht]; exact hP, va_K.moved hW.alike hK, hD⟩, hS.F ht⟩) hS.2.2 dX0_init_58
set_option maxHeartbeats 4000000 in
set_option maxRecDepth 100000 in
theorem kX0_init_2 (l : Launch) (dC : Nat → ClassId) (dI : Nat → Nat → Nat) (cI c2 cZ : ClassId) (o1 : Nat) (sz : Nat) : Met l yX0_init wsX0_init ({ frames := 1, cells := 3, slots := 276, locals := 15 }) (va_Pc [.ref o1, .int 8] (wPre (dC, dI) [(cI, .int), (c2, .array .int), (cZ, .boolean)] ([(o1, .inr (0, [.null, .null, .null, .int 0, .int 0, .int 0, .int 0, .int 0]))]) sz)) (va_Qv (fun (u : Int32 × Nat × Nat × Nat × (Nat → Int32) × (Nat → Int32) × (Nat → Int32)) => True) (fun u t => wPost (dC, dI) [(cI, .int), (c2, .array .int), (cZ, .boolean)] (va_A ([(o1, .inr (0, [.null, .null, .null, .int 0, .int 0, .int 0, .int 0, .int 0]))]) sz) ([(o1, .inr (0, [.ref u.2.2.1, .ref u.2.1, .ref u.2.2.2.1, .int 0, .int 0, .int 0, .int 0, .int u.1])), (u.2.1, .inl (cI, 12, .inl u.2.2.2.2.1)), (u.2.2.1, .inl (cI, 256, .inl u.2.2.2.2.2.1)), (u.2.2.2.1, .inl (cI, 8, .inl u.2.2.2.2.2.2))]) t) (va_A ([(o1, .inr (0, [.null, .null, .null, .int 0, .int 0, .int 0, .int 0, .int 0]))]) sz)) 3 276 (va_A ([(o1, .inr (0, [.null, .null, .null, .int 0, .int 0, .int 0, .int 0, .int 0]))]) sz) := by
  refine Met.ofW (cc := cX0_init) (maxL := 2) (ret := none) (by decide) rfl ?_
  intro p e s m args below meth c s₁ B hml hv
  obtain ⟨rfl, hsz, hP, hK, hD0, hN⟩ := hv
  have hx := B.exec
  have hb := B.bytes
  have hr := B.returns
  have hts := atoms_spec (ws := wsX0_init) B.pre
  have hown : s.vm.findClass RX0 = some m.cls := findClass_of_methodNamed B.named
  have hlocks := B.notSynchronized
  have hin : meth.name = "<init>" := (name_of_methodNamed B.named B.method).1
  subst hsz
  have hD := hD0.self (sz := s.heap.size)
  generalize hAe : va_A ([(o1, .inr (0, [.null, .null, .null, .int 0, .int 0, .int 0, .int 0, .int 0]))]) s.heap.size = A at hD ⊢
  have hA : ∀ q : Nat, s.heap.size ≤ q → A q := fun q h => by rw [← hAe]; exact Or.inr h
  have hS : va_S A s.heap s.heap [] := va_S.rf
  have hP : va_P (dC, dI) vwCl ([(o1, .inr (0, [.null, .null, .null, .int 0, .int 0, .int 0, .int 0, .int 0]))]) s.heap := hP
  have hl := lv_entry ([.ref o1, .int 8]) (n := 2) (Nat.le_of_ble_eq_true rfl)
  rw [lg_entry_eq]
  generalize (lg_sl ([.ref o1, .int 8]) ++ List.replicate (2 - (lg_sl ([.ref o1, .int 8])).length) Slot.unset).toArray = ls at hl ⊢
  have hl : lv_has ls 2 [(0, .ref o1), (1, .int 8)] := hl
  refine gen_Q (fun Q hQ => ?_)
  refine lv_aload_n hx hb dX0_init_0 rfl (lv_at hl 0 rfl) ?_
  refine W.objInit hx hb hown (hts (.methodLink RX0 3 objectInit) hm_X0_init_1) (hts (.instanceMethod objectInit) hm_X0_init_2) (hts (.code objectInit ⟨#[0xb1]⟩ 1 none) hm_X0_init_3) rfl (by rw [hml]; exact hl.1) rfl dX0_init_1 (Nat.le_of_ble_eq_true rfl) (Nat.le_of_ble_eq_true rfl) ?_
  refine W.eq (g2 := F0 m 4 ls []) rfl ?_
  refine lv_aload_n hx hb dX0_init_4 rfl (lv_at hl 0 rfl) ?_
  refine lv_bipush (v := 12) hx hb dX0_init_5 (by decide) ?_
  refine lv_bipush (v := 12) hx hb dX0_init_7 (by decide) ?_
  refine va_mmax hx hb (hml.trans hl.1.symm) hown (hts (.methodLink RX0 9 Lib.Math.max.name) hm_X0_init_4) (hts (.static Lib.Math.max.name) hm_X0_init_5) (hts (.initialized "java/lang/Math") hm_X0_init_6) (hts (.code Lib.Math.max.name Lib.Math.max.code 2 (some .int)) hm_X0_init_7) (Nat.le_of_ble_eq_true rfl) (Nat.le_of_ble_eq_true rfl) (Nat.le_of_ble_eq_true rfl) (Nat.le_of_ble_eq_true rfl) dX0_init_9 (tk_i (v := 12) (by decide +kernel) ?_)
  refine va_newa (atype := .int) (ty := .int) (N' := 12) (a0 := (12, .inl (fun _ => 0))) hx hb (hts (.arrayClass .int) hm_X0_init_8) rfl hK hP hD hS hA (fun _ => rfl) (by decide +kernel) (by decide +kernel) (by decide +kernel) (Nat.le_of_ble_eq_true rfl) (Nat.le_of_ble_eq_true rfl) dX0_init_12 (fun q1 cA H hK1 hP hD hS => ?_)
  refine W.widen (k := 1) (n := 12) (by decide) (by decide) ?_
  have e9 : cI = cA := K3_int hK1
  subst e9
  obtain ⟨f2, f2_e⟩ : ∃ g : Nat → Int32, g = fun _ => 0 := ⟨_, rfl⟩
  rw [← f2_e] at hP hD
  have hP : va_P (dC, dI) vwCl ([(o1, .inr (0, [.null, .null, .null, .int 0, .int 0, .int 0, .int 0, .int 0])), (q1, .inl (cI, 12, .inl f2))]) H := hP
  have hD : va_D A ([(o1, .inr (0, [.null, .null, .null, .int 0, .int 0, .int 0, .int 0, .int 0])), (q1, .inl (cI, 12, .inl f2))]) := hD
  refine va_putF (D := (dC, dI)) (ci := 0) (v := .ref q1) (ty := .array .int) (C := RX0) (T := TX0) (N := 8) hx hb hts iw_X0_init_X0 tyX0 tyX0_ok nmX0 hown hK hP hD hS 0 rfl rfl 1 (by decide) (hts (.fieldLink RX0 15 "HolelessHouse$Benches" "rows" "[I") hm_X0_init_9) (fun _ h9 => h9) rfl hin rfl (by decide +kernel) rfl rfl (Nat.le_of_ble_eq_true rfl) dX0_init_14 (fun H locs hP hD hS => ?_)
  have hP : va_P (dC, dI) vwCl ([(o1, .inr (0, [.null, .ref q1, .null, .int 0, .int 0, .int 0, .int 0, .int 0])), (q1, .inl (cI, 12, .inl f2))]) H := hP
  have hD : va_D A ([(o1, .inr (0, [.null, .ref q1, .null, .int 0, .int 0, .int 0, .int 0, .int 0])), (q1, .inl (cI, 12, .inl f2))]) := hD
  refine lv_aload_n hx hb dX0_init_17 rfl (lv_at hl 0 rfl) ?_
  refine lv_iconst (v := 0) hx hb dX0_init_18 (by decide) ?_
  refine va_put (D := (dC, dI)) (ci := 0) (v := .int 0) (ty := .int) (C := RX0) (T := TX0) (N := 8) hx hb hts iw_X0_init_X0 tyX0 tyX0_ok nmX0 hown hK hP hD hS 0 rfl rfl 3 (by decide) (hts (.fieldLink RX0 21 "HolelessHouse$Benches" "rowCount" "I") hm_X0_init_10) (fun _ h9 => h9) rfl (by decide +kernel) rfl rfl (Nat.le_of_ble_eq_true rfl) dX0_init_19 (fun H locs hP hD hS => ?_)
  have hP : va_P (dC, dI) vwCl ([(o1, .inr (0, [.null, .ref q1, .null, .int 0, .int 0, .int 0, .int 0, .int 0])), (q1, .inl (cI, 12, .inl f2))]) H := hP
  have hD : va_D A ([(o1, .inr (0, [.null, .ref q1, .null, .int 0, .int 0, .int 0, .int 0, .int 0])), (q1, .inl (cI, 12, .inl f2))]) := hD
  refine lv_aload_n hx hb dX0_init_22 rfl (lv_at hl 0 rfl) ?_
  refine lv_iconst (v := 0) hx hb dX0_init_23 (by decide) ?_
  refine va_put (D := (dC, dI)) (ci := 0) (v := .int 0) (ty := .int) (C := RX0) (T := TX0) (N := 8) hx hb hts iw_X0_init_X0 tyX0 tyX0_ok nmX0 hown hK hP hD hS 0 rfl rfl 4 (by decide) (hts (.fieldLink RX0 25 "HolelessHouse$Benches" "width" "I") hm_X0_init_11) (fun _ h9 => h9) rfl (by decide +kernel) rfl rfl (Nat.le_of_ble_eq_true rfl) dX0_init_24 (fun H locs hP hD hS => ?_)
  have hP : va_P (dC, dI) vwCl ([(o1, .inr (0, [.null, .ref q1, .null, .int 0, .int 0, .int 0, .int 0, .int 0])), (q1, .inl (cI, 12, .inl f2))]) H := hP
  have hD : va_D A ([(o1, .inr (0, [.null, .ref q1, .null, .int 0, .int 0, .int 0, .int 0, .int 0])), (q1, .inl (cI, 12, .inl f2))]) := hD
  refine lv_aload_n hx hb dX0_init_27 rfl (lv_at hl 0 rfl) ?_
  refine lv_iconst (v := 0) hx hb dX0_init_28 (by decide) ?_
  refine va_put (D := (dC, dI)) (ci := 0) (v := .int 0) (ty := .int) (C := RX0) (T := TX0) (N := 8) hx hb hts iw_X0_init_X0 tyX0 tyX0_ok nmX0 hown hK hP hD hS 0 rfl rfl 5 (by decide) (hts (.fieldLink RX0 28 "HolelessHouse$Benches" "ways" "I") hm_X0_init_12) (fun _ h9 => h9) rfl (by decide +kernel) rfl rfl (Nat.le_of_ble_eq_true rfl) dX0_init_29 (fun H locs hP hD hS => ?_)
  have hP : va_P (dC, dI) vwCl ([(o1, .inr (0, [.null, .ref q1, .null, .int 0, .int 0, .int 0, .int 0, .int 0])), (q1, .inl (cI, 12, .inl f2))]) H := hP
  have hD : va_D A ([(o1, .inr (0, [.null, .ref q1, .null, .int 0, .int 0, .int 0, .int 0, .int 0])), (q1, .inl (cI, 12, .inl f2))]) := hD
  refine lv_aload_n hx hb dX0_init_32 rfl (lv_at hl 0 rfl) ?_
  refine lv_iconst (v := 0) hx hb dX0_init_33 (by decide) ?_
  refine va_put (D := (dC, dI)) (ci := 0) (v := .int 0) (ty := .boolean) (C := RX0) (T := TX0) (N := 8) hx hb hts iw_X0_init_X0 tyX0 tyX0_ok nmX0 hown hK hP hD hS 0 rfl rfl 6 (by decide) (hts (.fieldLink RX0 31 "HolelessHouse$Benches" "seated" "Z") hm_X0_init_13) (fun _ h9 => h9) rfl (by decide +kernel) rfl rfl (Nat.le_of_ble_eq_true rfl) dX0_init_34 (fun H locs hP hD hS => ?_)
  have hP : va_P (dC, dI) vwCl ([(o1, .inr (0, [.null, .ref q1, .null, .int 0, .int 0, .int 0, .int 0, .int 0])), (q1, .inl (cI, 12, .inl f2))]) H := hP
  have hD : va_D A ([(o1, .inr (0, [.null, .ref q1, .null, .int 0, .int 0, .int 0, .int 0, .int 0])), (q1, .inl (cI, 12, .inl f2))]) := hD
  refine lv_aload_n hx hb dX0_init_37 rfl (lv_at hl 0 rfl) ?_
  refine lv_iconst (v := (-1)) hx hb dX0_init_38 (by decide) ?_
  refine va_put (D := (dC, dI)) (ci := 0) (v := .int (-1)) (ty := .int) (C := RX0) (T := TX0) (N := 8) hx hb hts iw_X0_init_X0 tyX0 tyX0_ok nmX0 hown hK hP hD hS 0 rfl rfl 7 (by decide) (hts (.fieldLink RX0 35 "HolelessHouse$Benches" "madeFor" "I") hm_X0_init_14) (fun _ h9 => h9) rfl (by decide +kernel) rfl rfl (Nat.le_of_ble_eq_true rfl) dX0_init_39 (fun H locs hP hD hS => ?_)
  have hP : va_P (dC, dI) vwCl ([(o1, .inr (0, [.null, .ref q1, .null, .int 0, .int 0, .int 0, .int 0, .int (-1)])), (q1, .inl (cI, 12, .inl f2))]) H := hP
  have hD : va_D A ([(o1, .inr (0, [.null, .ref q1, .null, .int 0, .int 0, .int 0, .int 0, .int (-1)])), (q1, .inl (cI, 12, .inl f2))]) := hD
  refine lv_aload_n hx hb dX0_init_42 rfl (lv_at hl 0 rfl) ?_
  refine lv_iconst (v := 1) hx hb dX0_init_43 (by decide) ?_
  refine lv_iload_n hx hb dX0_init_44 rfl (lv_at hl 1 rfl) ?_
  refine lv_ishl hx hb dX0_init_45 (tk_i (v := 256) (by decide +kernel) ?_)
  refine va_newa (atype := .int) (ty := .int) (N' := 256) (a0 := (256, .inl (fun _ => 0))) hx hb (hts (.arrayClass .int) hm_X0_init_8) rfl hK hP hD hS hA (fun _ => rfl) (by decide +kernel) (by decide +kernel) (by decide +kernel) (Nat.le_of_ble_eq_true rfl) (Nat.le_of_ble_eq_true rfl) dX0_init_46 (fun q3 cA H hK1 hP hD hS => ?_)
  refine W.widen (k := 2) (n := 268) (by decide) (by decide) ?_
  have e9 : cI = cA := K3_int hK1
  subst e9
  obtain ⟨f4, f4_e⟩ : ∃ g : Nat → Int32, g = fun _ => 0 := ⟨_, rfl⟩
  rw [← f4_e] at hP hD
  have hP : va_P (dC, dI) vwCl ([(o1, .inr (0, [.null, .ref q1, .null, .int 0, .int 0, .int 0, .int 0, .int (-1)])), (q1, .inl (cI, 12, .inl f2)), (q3, .inl (cI, 256, .inl f4))]) H := hP
  have hD : va_D A ([(o1, .inr (0, [.null, .ref q1, .null, .int 0, .int 0, .int 0, .int 0, .int (-1)])), (q1, .inl (cI, 12, .inl f2)), (q3, .inl (cI, 256, .inl f4))]) := hD
  refine va_putF (D := (dC, dI)) (ci := 0) (v := .ref q3) (ty := .array .int) (C := RX0) (T := TX0) (N := 8) hx hb hts iw_X0_init_X0 tyX0 tyX0_ok nmX0 hown hK hP hD hS 0 rfl rfl 0 (by decide) (hts (.fieldLink RX0 38 "HolelessHouse$Benches" "notes" "[I") hm_X0_init_15) (fun _ h9 => h9) rfl hin rfl (by decide +kernel) rfl rfl (Nat.le_of_ble_eq_true rfl) dX0_init_48 (fun H locs hP hD hS => ?_)
  have hP : va_P (dC, dI) vwCl ([(o1, .inr (0, [.ref q3, .ref q1, .null, .int 0, .int 0, .int 0, .int 0, .int (-1)])), (q1, .inl (cI, 12, .inl f2)), (q3, .inl (cI, 256, .inl f4))]) H := hP
  have hD : va_D A ([(o1, .inr (0, [.ref q3, .ref q1, .null, .int 0, .int 0, .int 0, .int 0, .int (-1)])), (q1, .inl (cI, 12, .inl f2)), (q3, .inl (cI, 256, .inl f4))]) := hD
  refine lv_aload_n hx hb dX0_init_51 rfl (lv_at hl 0 rfl) ?_
  refine lv_iload_n hx hb dX0_init_52 rfl (lv_at hl 1 rfl) ?_
  refine va_newa (atype := .int) (ty := .int) (N' := 8) (a0 := (8, .inl (fun _ => 0))) hx hb (hts (.arrayClass .int) hm_X0_init_8) rfl hK hP hD hS hA (fun _ => rfl) (by decide +kernel) (by decide +kernel) (by decide +kernel) (Nat.le_of_ble_eq_true rfl) (Nat.le_of_ble_eq_true rfl) dX0_init_53 (fun q5 cA H hK1 hP hD hS => ?_)
  refine W.widen (k := 3) (n := 276) (by decide) (by decide) ?_
  have e9 : cI = cA := K3_int hK1
  subst e9
  obtain ⟨f6, f6_e⟩ : ∃ g : Nat → Int32, g = fun _ => 0 := ⟨_, rfl⟩
  rw [← f6_e] at hP hD
  have hP : va_P (dC, dI) vwCl ([(o1, .inr (0, [.ref q3, .ref q1, .null, .int 0, .int 0, .int 0, .int 0, .int (-1)])), (q1, .inl (cI, 12, .inl f2)), (q3, .inl (cI, 256, .inl f4)), (q5, .inl (cI, 8, .inl f6))]) H := hP
  have hD : va_D A ([(o1, .inr (0, [.ref q3, .ref q1, .null, .int 0, .int 0, .int 0, .int 0, .int (-1)])), (q1, .inl (cI, 12, .inl f2)), (q3, .inl (cI, 256, .inl f4)), (q5, .inl (cI, 8, .inl f6))]) := hD
  refine va_putF (D := (dC, dI)) (ci := 0) (v := .ref q5) (ty := .array .int) (C := RX0) (T := TX0) (N := 8) hx hb hts iw_X0_init_X0 tyX0 tyX0_ok nmX0 hown hK hP hD hS 0 rfl rfl 2 (by decide) (hts (.fieldLink RX0 41 "HolelessHouse$Benches" "places" "[I") hm_X0_init_16) (fun _ h9 => h9) rfl hin rfl (by decide +kernel) rfl rfl (Nat.le_of_ble_eq_true rfl) dX0_init_55 (fun H locs hP hD hS => ?_)
  have hP : va_P (dC, dI) vwCl ([(o1, .inr (0, [.ref q3, .ref q1, .ref q5, .int 0, .int 0, .int 0, .int 0, .int (-1)])), (q1, .inl (cI, 12, .inl f2)), (q3, .inl (cI, 256, .inl f4)), (q5, .inl (cI, 8, .inl f6))]) H := hP
  have hD : va_D A ([(o1, .inr (0, [.ref q3, .ref q1, .ref q5, .int 0, .int 0, .int 0, .int 0, .int (-1)])), (q1, .inl (cI, 12, .inl f2)), (q3, .inl (cI, 256, .inl f4)), (q5, .inl (cI, 8, .inl f6))]) := hD
  rw [hQ]
  exact W.vret hx hb hr (fun t ht hW => ⟨⟨((-1), q1, q3, q5, f2, f4, f6), rfl, trivial, by rw [ht]; exact hP, va_K.moved hW.alike hK, hD⟩, hS.F ht⟩) hS.2.2 dX0_init_58
