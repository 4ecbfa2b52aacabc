/-! Printed by program: methods, links -/
theorem eb_tbp {w : Cond} (k : Nat) (h : (k2_sels lw_privs)[k]? = some w) (hg : goodWord w = true) : w ∈ eb_tbl := List.mem_filter.mpr ⟨List.mem_append_left _ (List.mem_of_getElem? h), hg⟩
theorem eb_tb1 {w : Cond} (k : Nat) (h : tables_1_1[k]? = some w) (hg : goodWord w = true) : w ∈ eb_tbl := List.mem_filter.mpr ⟨List.mem_append_right _ (List.mem_append_left _ (List.mem_of_getElem? h)), hg⟩
theorem eb_tn1 {w : Cond} (k : Nat) (h : tables_1_1[k]? = some w) (hg : eb_isN w = true) : w ∈ eb_nst := List.mem_filter.mpr ⟨List.mem_append_right _ (List.mem_append_left _ (List.mem_of_getElem? h)), hg⟩
theorem eb_tb2 {w : Cond} (k : Nat) (h : tables_1_2[k]? = some w) (hg : goodWord w = true) : w ∈ eb_tbl := List.mem_filter.mpr ⟨List.mem_append_right _ (List.mem_append_right _ (List.mem_append_left _ (List.mem_of_getElem? h))), hg⟩
theorem eb_tn2 {w : Cond} (k : Nat) (h : tables_1_2[k]? = some w) (hg : eb_isN w = true) : w ∈ eb_nst := List.mem_filter.mpr ⟨List.mem_append_right _ (List.mem_append_right _ (List.mem_append_left _ (List.mem_of_getElem? h))), hg⟩
theorem eb_tb3 {w : Cond} (k : Nat) (h : tables_1_3[k]? = some w) (hg : goodWord w = true) : w ∈ eb_tbl := List.mem_filter.mpr ⟨List.mem_append_right _ (List.mem_append_right _ (List.mem_append_right _ (List.mem_append_left _ (List.mem_of_getElem? h)))), hg⟩
theorem eb_tn3 {w : Cond} (k : Nat) (h : tables_1_3[k]? = some w) (hg : eb_isN w = true) : w ∈ eb_nst := List.mem_filter.mpr ⟨List.mem_append_right _ (List.mem_append_right _ (List.mem_append_right _ (List.mem_append_left _ (List.mem_of_getElem? h)))), hg⟩
theorem eb_tb4 {w : Cond} (k : Nat) (h : tables_1_4[k]? = some w) (hg : goodWord w = true) : w ∈ eb_tbl := List.mem_filter.mpr ⟨List.mem_append_right _ (List.mem_append_right _ (List.mem_append_right _ (List.mem_append_right _ (List.mem_append_left _ (List.mem_of_getElem? h))))), hg⟩
theorem eb_tn4 {w : Cond} (k : Nat) (h : tables_1_4[k]? = some w) (hg : eb_isN w = true) : w ∈ eb_nst := List.mem_filter.mpr ⟨List.mem_append_right _ (List.mem_append_right _ (List.mem_append_right _ (List.mem_append_right _ (List.mem_append_left _ (List.mem_of_getElem? h))))), hg⟩
theorem eb_tb5 {w : Cond} (k : Nat) (h : tables_1_5[k]? = some w) (hg : goodWord w = true) : w ∈ eb_tbl := List.mem_filter.mpr ⟨List.mem_append_right _ (List.mem_append_right _ (List.mem_append_right _ (List.mem_append_right _ (List.mem_append_right _ (List.mem_append_left _ (List.mem_of_getElem? h)))))), hg⟩
theorem eb_tn5 {w : Cond} (k : Nat) (h : tables_1_5[k]? = some w) (hg : eb_isN w = true) : w ∈ eb_nst := List.mem_filter.mpr ⟨List.mem_append_right _ (List.mem_append_right _ (List.mem_append_right _ (List.mem_append_right _ (List.mem_append_right _ (List.mem_append_left _ (List.mem_of_getElem? h)))))), hg⟩
theorem eb_tb6 {w : Cond} (k : Nat) (h : tables_1_6[k]? = some w) (hg : goodWord w = true) : w ∈ eb_tbl := List.mem_filter.mpr ⟨List.mem_append_right _ (List.mem_append_right _ (List.mem_append_right _ (List.mem_append_right _ (List.mem_append_right _ (List.mem_append_right _ (List.mem_append_left _ (List.mem_of_getElem? h))))))), hg⟩
theorem eb_tn6 {w : Cond} (k : Nat) (h : tables_1_6[k]? = some w) (hg : eb_isN w = true) : w ∈ eb_nst := List.mem_filter.mpr ⟨List.mem_append_right _ (List.mem_append_right _ (List.mem_append_right _ (List.mem_append_right _ (List.mem_append_right _ (List.mem_append_right _ (List.mem_append_left _ (List.mem_of_getElem? h))))))), hg⟩
theorem eb_tb7 {w : Cond} (k : Nat) (h : tables_1_7[k]? = some w) (hg : goodWord w = true) : w ∈ eb_tbl := List.mem_filter.mpr ⟨List.mem_append_right _ (List.mem_append_right _ (List.mem_append_right _ (List.mem_append_right _ (List.mem_append_right _ (List.mem_append_right _ (List.mem_append_right _ (List.mem_append_left _ (List.mem_of_getElem? h)))))))), hg⟩
theorem eb_tn7 {w : Cond} (k : Nat) (h : tables_1_7[k]? = some w) (hg : eb_isN w = true) : w ∈ eb_nst := List.mem_filter.mpr ⟨List.mem_append_right _ (List.mem_append_right _ (List.mem_append_right _ (List.mem_append_right _ (List.mem_append_right _ (List.mem_append_right _ (List.mem_append_right _ (List.mem_append_left _ (List.mem_of_getElem? h)))))))), hg⟩
theorem eb_tb8 {w : Cond} (k : Nat) (h : tables_1_8[k]? = some w) (hg : goodWord w = true) : w ∈ eb_tbl := List.mem_filter.mpr ⟨List.mem_append_right _ (List.mem_append_right _ (List.mem_append_right _ (List.mem_append_right _ (List.mem_append_right _ (List.mem_append_right _ (List.mem_append_right _ (List.mem_append_right _ (List.mem_of_getElem? h)))))))), hg⟩
theorem eb_tn8 {w : Cond} (k : Nat) (h : tables_1_8[k]? = some w) (hg : eb_isN w = true) : w ∈ eb_nst := List.mem_filter.mpr ⟨List.mem_append_right _ (List.mem_append_right _ (List.mem_append_right _ (List.mem_append_right _ (List.mem_append_right _ (List.mem_append_right _ (List.mem_append_right _ (List.mem_append_right _ (List.mem_of_getElem? h)))))))), hg⟩
theorem nhRX0 : RX0 ≠ "java/lang/invoke/MethodHandle" ∧ RX0 ≠ "java/lang/invoke/VarHandle" := by decide +kernel
theorem nhRX1 : RX1 ≠ "java/lang/invoke/MethodHandle" ∧ RX1 ≠ "java/lang/invoke/VarHandle" := by decide +kernel
theorem nhRX2 : RX2 ≠ "java/lang/invoke/MethodHandle" ∧ RX2 ≠ "java/lang/invoke/VarHandle" := by decide +kernel
theorem nhRX3 : RX3 ≠ "java/lang/invoke/MethodHandle" ∧ RX3 ≠ "java/lang/invoke/VarHandle" := by decide +kernel
theorem nhRX4 : RX4 ≠ "java/lang/invoke/MethodHandle" ∧ RX4 ≠ "java/lang/invoke/VarHandle" := by decide +kernel
theorem nhRX5 : RX5 ≠ "java/lang/invoke/MethodHandle" ∧ RX5 ≠ "java/lang/invoke/VarHandle" := by decide +kernel
theorem nhRX6 : RX6 ≠ "java/lang/invoke/MethodHandle" ∧ RX6 ≠ "java/lang/invoke/VarHandle" := by decide +kernel
theorem nhRX7 : RX7 ≠ "java/lang/invoke/MethodHandle" ∧ RX7 ≠ "java/lang/invoke/VarHandle" := by decide +kernel
theorem nhRX8 : RX8 ≠ "java/lang/invoke/MethodHandle" ∧ RX8 ≠ "java/lang/invoke/VarHandle" := by decide +kernel
theorem nhRX9 : RX9 ≠ "java/lang/invoke/MethodHandle" ∧ RX9 ≠ "java/lang/invoke/VarHandle" := by decide +kernel
theorem nhRX10 : RX10 ≠ "java/lang/invoke/MethodHandle" ∧ RX10 ≠ "java/lang/invoke/VarHandle" := by decide +kernel
theorem nhRX11 : RX11 ≠ "java/lang/invoke/MethodHandle" ∧ RX11 ≠ "java/lang/invoke/VarHandle" := by decide +kernel
theorem nhRJx145de : RJx145de ≠ "java/lang/invoke/MethodHandle" ∧ RJx145de ≠ "java/lang/invoke/VarHandle" := by decide +kernel
theorem nhRJx9f9b0 : RJx9f9b0 ≠ "java/lang/invoke/MethodHandle" ∧ RJx9f9b0 ≠ "java/lang/invoke/VarHandle" := by decide +kernel
theorem nhRJ11 : RJ11 ≠ "java/lang/invoke/MethodHandle" ∧ RJ11 ≠ "java/lang/invoke/VarHandle" := by decide +kernel
theorem nhRJxb160c : RJxb160c ≠ "java/lang/invoke/MethodHandle" ∧ RJxb160c ≠ "java/lang/invoke/VarHandle" := by decide +kernel
theorem nhRJ6 : RJ6 ≠ "java/lang/invoke/MethodHandle" ∧ RJ6 ≠ "java/lang/invoke/VarHandle" := by decide +kernel
theorem nhRJ9 : RJ9 ≠ "java/lang/invoke/MethodHandle" ∧ RJ9 ≠ "java/lang/invoke/VarHandle" := by decide +kernel
theorem nhRJ0 : RJ0 ≠ "java/lang/invoke/MethodHandle" ∧ RJ0 ≠ "java/lang/invoke/VarHandle" := by decide +kernel
theorem nhRJ1 : RJ1 ≠ "java/lang/invoke/MethodHandle" ∧ RJ1 ≠ "java/lang/invoke/VarHandle" := by decide +kernel
theorem nhRJ2 : RJ2 ≠ "java/lang/invoke/MethodHandle" ∧ RJ2 ≠ "java/lang/invoke/VarHandle" := by decide +kernel
theorem nhRJxfd54e : RJxfd54e ≠ "java/lang/invoke/MethodHandle" ∧ RJxfd54e ≠ "java/lang/invoke/VarHandle" := by decide +kernel
theorem nhRJx3cf43 : RJx3cf43 ≠ "java/lang/invoke/MethodHandle" ∧ RJx3cf43 ≠ "java/lang/invoke/VarHandle" := by decide +kernel
theorem nhRJ3 : RJ3 ≠ "java/lang/invoke/MethodHandle" ∧ RJ3 ≠ "java/lang/invoke/VarHandle" := by decide +kernel
theorem nhRL : RL ≠ "java/lang/invoke/MethodHandle" ∧ RL ≠ "java/lang/invoke/VarHandle" := by decide +kernel
abbrev mX10_init : eb_M := (yX10_init, cX10_init, 1, none)
theorem miX10_init : eb_MI mX10_init 0 := ⟨⟨(eb_tb1 28 rfl rfl), (eb_tb1 1 rfl rfl), ⟨nhRX10.1, nhRX10.2, by decide +kernel⟩, by decide⟩, (eb_tb1 27 rfl rfl), rfl, rfl⟩
abbrev mX9_init : eb_M := (yX9_init, cX9_init, 1, none)
theorem miX9_init : eb_MI mX9_init 0 := ⟨⟨(eb_tb1 36 rfl rfl), (eb_tb1 2 rfl rfl), ⟨nhRX9.1, nhRX9.2, by decide +kernel⟩, by decide⟩, (eb_tb1 35 rfl rfl), rfl, rfl⟩
abbrev mX4_init : eb_M := (yX4_init, cX4_init, 1, none)
theorem miX4_init : eb_MI mX4_init 0 := ⟨⟨(eb_tb1 54 rfl rfl), (eb_tb1 3 rfl rfl), ⟨nhRX4.1, nhRX4.2, by decide +kernel⟩, by decide⟩, (eb_tb1 53 rfl rfl), rfl, rfl⟩
abbrev mX6_init : eb_M := (yX6_init, cX6_init, 1, none)
theorem miX6_init : eb_MI mX6_init 0 := ⟨⟨(eb_tb1 70 rfl rfl), (eb_tb1 4 rfl rfl), ⟨nhRX6.1, nhRX6.2, by decide +kernel⟩, by decide⟩, (eb_tb1 69 rfl rfl), rfl, rfl⟩
abbrev mX5_init : eb_M := (yX5_init, cX5_init, 1, none)
theorem miX5_init : eb_MI mX5_init 0 := ⟨⟨(eb_tb1 76 rfl rfl), (eb_tb1 5 rfl rfl), ⟨nhRX5.1, nhRX5.2, by decide +kernel⟩, by decide⟩, (eb_tb1 75 rfl rfl), rfl, rfl⟩
abbrev mX5_beThePlainOne : eb_M := (yX5_beThePlainOne, cX5_beThePlainOne, 1, none)
theorem mvX5_beThePlainOne : eb_MV mX5_beThePlainOne 0 5 := ⟨⟨(eb_tb1 81 rfl rfl), (eb_tb1 5 rfl rfl), ⟨nhRX5.1, nhRX5.2, by decide +kernel⟩, by decide⟩, (eb_tb1 80 rfl rfl), (eb_tbp 0 rfl rfl), by decide, _, _, rfl⟩
abbrev mX5_begin : eb_M := (yX5_begin, cX5_begin, 1, none)
theorem mvX5_begin : eb_MV mX5_begin 0 5 := ⟨⟨(eb_tb1 85 rfl rfl), (eb_tb1 5 rfl rfl), ⟨nhRX5.1, nhRX5.2, by decide +kernel⟩, by decide⟩, (eb_tb1 84 rfl rfl), (eb_tbp 1 rfl rfl), by decide, _, _, rfl⟩
abbrev mX5_takeThing : eb_M := (yX5_takeThing, cX5_takeThing, 4, some .boolean)
theorem mvX5_takeThing : eb_MV mX5_takeThing 1 5 := ⟨⟨(eb_tb1 89 rfl rfl), (eb_tb1 5 rfl rfl), ⟨nhRX5.1, nhRX5.2, by decide +kernel⟩, by decide⟩, (eb_tb1 88 rfl rfl), (eb_tbp 2 rfl rfl), by decide, _, _, rfl⟩
abbrev mX5_hold : eb_M := (yX5_hold, cX5_hold, 2, none)
theorem mvX5_hold : eb_MV mX5_hold 1 5 := ⟨⟨(eb_tb1 93 rfl rfl), (eb_tb1 5 rfl rfl), ⟨nhRX5.1, nhRX5.2, by decide +kernel⟩, by decide⟩, (eb_tb1 92 rfl rfl), (eb_tbp 3 rfl rfl), by decide, _, _, rfl⟩
abbrev mX5_open : eb_M := (yX5_open, cX5_open, 1, some .boolean)
theorem mvX5_open : eb_MV mX5_open 0 5 := ⟨⟨(eb_tb1 97 rfl rfl), (eb_tb1 5 rfl rfl), ⟨nhRX5.1, nhRX5.2, by decide +kernel⟩, by decide⟩, (eb_tb1 96 rfl rfl), (eb_tbp 4 rfl rfl), by decide, _, _, rfl⟩
abbrev mJ0_indexOf_0f7a4 : eb_M := (yJ0_indexOf_0f7a4, cJ0_indexOf_0f7a4, 2, some .int)
theorem mcJ0_indexOf_0f7a4 : eb_MC mJ0_indexOf_0f7a4 1 := ⟨(eb_tb1 102 rfl rfl), (eb_tb1 6 rfl rfl), ⟨nhRJ0.1, nhRJ0.2, by decide +kernel⟩, by decide⟩
theorem mtJ0_indexOf_0f7a4 : Cond.instanceMethod (mJ0_indexOf_0f7a4).1 ∈ eb_tbl ∧ Cond.selects (mJ0_indexOf_0f7a4).1.cls (mJ0_indexOf_0f7a4).1 (mJ0_indexOf_0f7a4).1 ∈ eb_tbl := ⟨(eb_tb1 100 rfl rfl), (eb_tb1 101 rfl rfl)⟩
abbrev mJ0_indexOf_7cf53 : eb_M := (yJ0_indexOf_7cf53, cJ0_indexOf_7cf53, 3, some .int)
theorem mcJ0_indexOf_7cf53 : eb_MC mJ0_indexOf_7cf53 2 := ⟨(eb_tb1 106 rfl rfl), (eb_tb1 6 rfl rfl), ⟨nhRJ0.1, nhRJ0.2, by decide +kernel⟩, by decide⟩
theorem mtJ0_indexOf_7cf53 : Cond.instanceMethod (mJ0_indexOf_7cf53).1 ∈ eb_tbl ∧ Cond.selects (mJ0_indexOf_7cf53).1.cls (mJ0_indexOf_7cf53).1 (mJ0_indexOf_7cf53).1 ∈ eb_tbl := ⟨(eb_tb1 104 rfl rfl), (eb_tb1 105 rfl rfl)⟩
abbrev mJ0_isLatin1_aae02 : eb_M := (yJ0_isLatin1_aae02, cJ0_isLatin1_aae02, 1, some .boolean)
theorem mcJ0_isLatin1_aae02 : eb_MC mJ0_isLatin1_aae02 0 := ⟨(eb_tb1 110 rfl rfl), (eb_tb1 6 rfl rfl), ⟨nhRJ0.1, nhRJ0.2, by decide +kernel⟩, by decide⟩
theorem mtJ0_isLatin1_aae02 : Cond.instanceMethod (mJ0_isLatin1_aae02).1 ∈ eb_tbl ∧ Cond.selects (mJ0_isLatin1_aae02).1.cls (mJ0_isLatin1_aae02).1 (mJ0_isLatin1_aae02).1 ∈ eb_tbl := ⟨(eb_tb1 108 rfl rfl), (eb_tb1 109 rfl rfl)⟩
abbrev mJ0_length_8abf5 : eb_M := (yJ0_length_8abf5, cJ0_length_8abf5, 1, some .int)
theorem mcJ0_length_8abf5 : eb_MC mJ0_length_8abf5 0 := ⟨(eb_tb1 116 rfl rfl), (eb_tb1 6 rfl rfl), ⟨nhRJ0.1, nhRJ0.2, by decide +kernel⟩, by decide⟩
theorem mtJ0_length_8abf5 : Cond.instanceMethod (mJ0_length_8abf5).1 ∈ eb_tbl ∧ Cond.selects (mJ0_length_8abf5).1.cls (mJ0_length_8abf5).1 (mJ0_length_8abf5).1 ∈ eb_tbl := ⟨(eb_tb1 114 rfl rfl), (eb_tb1 115 rfl rfl)⟩
abbrev mJ0_coder_7d493 : eb_M := (yJ0_coder_7d493, cJ0_coder_7d493, 1, some .byte)
theorem mcJ0_coder_7d493 : eb_MC mJ0_coder_7d493 0 := ⟨(eb_tb1 120 rfl rfl), (eb_tb1 6 rfl rfl), ⟨nhRJ0.1, nhRJ0.2, by decide +kernel⟩, by decide⟩
theorem mtJ0_coder_7d493 : Cond.instanceMethod (mJ0_coder_7d493).1 ∈ eb_tbl ∧ Cond.selects (mJ0_coder_7d493).1.cls (mJ0_coder_7d493).1 (mJ0_coder_7d493).1 ∈ eb_tbl := ⟨(eb_tb1 118 rfl rfl), (eb_tb1 119 rfl rfl)⟩
abbrev mJ1_indexOf_4cfef : eb_M := (yJ1_indexOf_4cfef, cJ1_indexOf_4cfef, 4, some .int)
theorem msJ1_indexOf_4cfef : eb_MS mJ1_indexOf_4cfef 4 := ⟨⟨(eb_tb1 123 rfl rfl), (eb_tb1 7 rfl rfl), ⟨nhRJ1.1, nhRJ1.2, by decide +kernel⟩, by decide⟩, (eb_tb1 122 rfl rfl)⟩
abbrev mJ1_canEncode_9a6ad : eb_M := (yJ1_canEncode_9a6ad, cJ1_canEncode_9a6ad, 1, some .boolean)
theorem msJ1_canEncode_9a6ad : eb_MS mJ1_canEncode_9a6ad 1 := ⟨⟨(eb_tb1 126 rfl rfl), (eb_tb1 7 rfl rfl), ⟨nhRJ1.1, nhRJ1.2, by decide +kernel⟩, by decide⟩, (eb_tb1 125 rfl rfl)⟩
abbrev mJ9_max_7cf53 : eb_M := (yJ9_max_7cf53, cJ9_max_7cf53, 2, some .int)
theorem msJ9_max_7cf53 : eb_MS mJ9_max_7cf53 2 := ⟨⟨(eb_tb1 129 rfl rfl), (eb_tb1 8 rfl rfl), ⟨nhRJ9.1, nhRJ9.2, by decide +kernel⟩, by decide⟩, (eb_tb1 128 rfl rfl)⟩
abbrev mJ9_min_7cf53 : eb_M := (yJ9_min_7cf53, cJ9_min_7cf53, 2, some .int)
theorem msJ9_min_7cf53 : eb_MS mJ9_min_7cf53 2 := ⟨⟨(eb_tb1 132 rfl rfl), (eb_tb1 8 rfl rfl), ⟨nhRJ9.1, nhRJ9.2, by decide +kernel⟩, by decide⟩, (eb_tb1 131 rfl rfl)⟩
abbrev mJ1_indexOfChar_4cfef : eb_M := (yJ1_indexOfChar_4cfef, cJ1_indexOfChar_4cfef, 6, some .int)
theorem msJ1_indexOfChar_4cfef : eb_MS mJ1_indexOfChar_4cfef 4 := ⟨⟨(eb_tb1 135 rfl rfl), (eb_tb1 7 rfl rfl), ⟨nhRJ1.1, nhRJ1.2, by decide +kernel⟩, by decide⟩, (eb_tb1 134 rfl rfl)⟩
abbrev mJ2_indexOf_4cfef : eb_M := (yJ2_indexOf_4cfef, cJ2_indexOf_4cfef, 4, some .int)
theorem msJ2_indexOf_4cfef : eb_MS mJ2_indexOf_4cfef 4 := ⟨⟨(eb_tb1 138 rfl rfl), (eb_tb1 9 rfl rfl), ⟨nhRJ2.1, nhRJ2.2, by decide +kernel⟩, by decide⟩, (eb_tb1 137 rfl rfl)⟩
abbrev mJ2_indexOfChar_4cfef : eb_M := (yJ2_indexOfChar_4cfef, cJ2_indexOfChar_4cfef, 4, some .int)
theorem msJ2_indexOfChar_4cfef : eb_MS mJ2_indexOfChar_4cfef 4 := ⟨⟨(eb_tb1 144 rfl rfl), (eb_tb1 9 rfl rfl), ⟨nhRJ2.1, nhRJ2.2, by decide +kernel⟩, by decide⟩, (eb_tb1 143 rfl rfl)⟩
abbrev mJ2_checkBoundsBeginEnd_d044e : eb_M := (yJ2_checkBoundsBeginEnd_d044e, cJ2_checkBoundsBeginEnd_d044e, 3, none)
theorem msJ2_checkBoundsBeginEnd_d044e : eb_MS mJ2_checkBoundsBeginEnd_d044e 3 := ⟨⟨(eb_tb1 147 rfl rfl), (eb_tb1 9 rfl rfl), ⟨nhRJ2.1, nhRJ2.2, by decide +kernel⟩, by decide⟩, (eb_tb1 146 rfl rfl)⟩
abbrev mJ2_length_9d52b : eb_M := (yJ2_length_9d52b, cJ2_length_9d52b, 1, some .int)
theorem msJ2_length_9d52b : eb_MS mJ2_length_9d52b 1 := ⟨⟨(eb_tb1 150 rfl rfl), (eb_tb1 9 rfl rfl), ⟨nhRJ2.1, nhRJ2.2, by decide +kernel⟩, by decide⟩, (eb_tb1 149 rfl rfl)⟩
abbrev mJ0_checkBoundsBeginEnd_23922 : eb_M := (yJ0_checkBoundsBeginEnd_23922, cJ0_checkBoundsBeginEnd_23922, 3, none)
theorem msJ0_checkBoundsBeginEnd_23922 : eb_MS mJ0_checkBoundsBeginEnd_23922 3 := ⟨⟨(eb_tb1 153 rfl rfl), (eb_tb1 6 rfl rfl), ⟨nhRJ0.1, nhRJ0.2, by decide +kernel⟩, by decide⟩, (eb_tb1 152 rfl rfl)⟩
abbrev mJ3_checkFromToIndex_8c36e : eb_M := (yJ3_checkFromToIndex_8c36e, cJ3_checkFromToIndex_8c36e, 4, some .int)
theorem msJ3_checkFromToIndex_8c36e : eb_MS mJ3_checkFromToIndex_8c36e 4 := ⟨⟨(eb_tb1 158 rfl rfl), (eb_tb1 10 rfl rfl), ⟨nhRJ3.1, nhRJ3.2, by decide +kernel⟩, by decide⟩, (eb_tb1 157 rfl rfl)⟩
abbrev mJ2_indexOfCharUnsafe_4cfef : eb_M := (yJ2_indexOfCharUnsafe_4cfef, cJ2_indexOfCharUnsafe_4cfef, 5, some .int)
theorem msJ2_indexOfCharUnsafe_4cfef : eb_MS mJ2_indexOfCharUnsafe_4cfef 4 := ⟨⟨(eb_tb1 161 rfl rfl), (eb_tb1 9 rfl rfl), ⟨nhRJ2.1, nhRJ2.2, by decide +kernel⟩, by decide⟩, (eb_tb1 160 rfl rfl)⟩
abbrev mJ2_getChar_3b067 : eb_M := (yJ2_getChar_3b067, cJ2_getChar_3b067, 2, some .char)
theorem msJ2_getChar_3b067 : eb_MS mJ2_getChar_3b067 2 := ⟨⟨(eb_tb1 164 rfl rfl), (eb_tb1 9 rfl rfl), ⟨nhRJ2.1, nhRJ2.2, by decide +kernel⟩, by decide⟩, (eb_tb1 163 rfl rfl)⟩
abbrev mJ2_indexOfSupplementary_4cfef : eb_M := (yJ2_indexOfSupplementary_4cfef, cJ2_indexOfSupplementary_4cfef, 7, some .int)
theorem msJ2_indexOfSupplementary_4cfef : eb_MS mJ2_indexOfSupplementary_4cfef 4 := ⟨⟨(eb_tb1 173 rfl rfl), (eb_tb1 9 rfl rfl), ⟨nhRJ2.1, nhRJ2.2, by decide +kernel⟩, by decide⟩, (eb_tb1 172 rfl rfl)⟩
abbrev mJ11_isValidCodePoint_9a6ad : eb_M := (yJ11_isValidCodePoint_9a6ad, cJ11_isValidCodePoint_9a6ad, 2, some .boolean)
theorem msJ11_isValidCodePoint_9a6ad : eb_MS mJ11_isValidCodePoint_9a6ad 1 := ⟨⟨(eb_tb1 176 rfl rfl), (eb_tb1 11 rfl rfl), ⟨nhRJ11.1, nhRJ11.2, by decide +kernel⟩, by decide⟩, (eb_tb1 175 rfl rfl)⟩
abbrev mJ11_highSurrogate_5068e : eb_M := (yJ11_highSurrogate_5068e, cJ11_highSurrogate_5068e, 1, some .char)
theorem msJ11_highSurrogate_5068e : eb_MS mJ11_highSurrogate_5068e 1 := ⟨⟨(eb_tb1 179 rfl rfl), (eb_tb1 11 rfl rfl), ⟨nhRJ11.1, nhRJ11.2, by decide +kernel⟩, by decide⟩, (eb_tb1 178 rfl rfl)⟩
abbrev mJ11_lowSurrogate_5068e : eb_M := (yJ11_lowSurrogate_5068e, cJ11_lowSurrogate_5068e, 1, some .char)
theorem msJ11_lowSurrogate_5068e : eb_MS mJ11_lowSurrogate_5068e 1 := ⟨⟨(eb_tb1 183 rfl rfl), (eb_tb1 11 rfl rfl), ⟨nhRJ11.1, nhRJ11.2, by decide +kernel⟩, by decide⟩, (eb_tb1 182 rfl rfl)⟩
abbrev mX10_within : eb_M := (yX10_within, cX10_within, 3, some .boolean)
theorem msX10_within : eb_MS mX10_within 3 := ⟨⟨(eb_tb1 187 rfl rfl), (eb_tb1 1 rfl rfl), ⟨nhRX10.1, nhRX10.2, by decide +kernel⟩, by decide⟩, (eb_tb1 186 rfl rfl)⟩
abbrev mX5_emit : eb_M := (yX5_emit, cX5_emit, 2, none)
theorem mvX5_emit : eb_MV mX5_emit 1 5 := ⟨⟨(eb_tb1 191 rfl rfl), (eb_tb1 5 rfl rfl), ⟨nhRX5.1, nhRX5.2, by decide +kernel⟩, by decide⟩, (eb_tb1 190 rfl rfl), (eb_tbp 5 rfl rfl), by decide, _, _, rfl⟩
abbrev mX5_takeJoint : eb_M := (yX5_takeJoint, cX5_takeJoint, 3, some .boolean)
theorem mvX5_takeJoint : eb_MV mX5_takeJoint 1 5 := ⟨⟨(eb_tb1 195 rfl rfl), (eb_tb1 5 rfl rfl), ⟨nhRX5.1, nhRX5.2, by decide +kernel⟩, by decide⟩, (eb_tb1 194 rfl rfl), (eb_tbp 6 rfl rfl), by decide, _, _, rfl⟩
abbrev mX5_lengthenNumber : eb_M := (yX5_lengthenNumber, cX5_lengthenNumber, 2, some .boolean)
theorem mvX5_lengthenNumber : eb_MV mX5_lengthenNumber 1 5 := ⟨⟨(eb_tb1 199 rfl rfl), (eb_tb1 5 rfl rfl), ⟨nhRX5.1, nhRX5.2, by decide +kernel⟩, by decide⟩, (eb_tb1 198 rfl rfl), (eb_tbp 7 rfl rfl), by decide, _, _, rfl⟩
abbrev mX5_close : eb_M := (yX5_close, cX5_close, 1, some .boolean)
theorem mvX5_close : eb_MV mX5_close 0 5 := ⟨⟨(eb_tb1 203 rfl rfl), (eb_tb1 5 rfl rfl), ⟨nhRX5.1, nhRX5.2, by decide +kernel⟩, by decide⟩, (eb_tb1 202 rfl rfl), (eb_tbp 8 rfl rfl), by decide, _, _, rfl⟩
abbrev mX5_release : eb_M := (yX5_release, cX5_release, 2, none)
theorem mvX5_release : eb_MV mX5_release 1 5 := ⟨⟨(eb_tb1 207 rfl rfl), (eb_tb1 5 rfl rfl), ⟨nhRX5.1, nhRX5.2, by decide +kernel⟩, by decide⟩, (eb_tb1 206 rfl rfl), (eb_tbp 9 rfl rfl), by decide, _, _, rfl⟩
abbrev mX5_rankOf : eb_M := (yX5_rankOf, cX5_rankOf, 1, some .int)
theorem msX5_rankOf : eb_MS mX5_rankOf 1 := ⟨⟨(eb_tb1 210 rfl rfl), (eb_tb1 5 rfl rfl), ⟨nhRX5.1, nhRX5.2, by decide +kernel⟩, by decide⟩, (eb_tb1 209 rfl rfl)⟩
abbrev mX7_init : eb_M := (yX7_init, cX7_init, 1, none)
theorem miX7_init : eb_MI mX7_init 0 := ⟨⟨(eb_tb2 43 rfl rfl), (eb_tb1 12 rfl rfl), ⟨nhRX7.1, nhRX7.2, by decide +kernel⟩, by decide⟩, (eb_tb2 42 rfl rfl), rfl, rfl⟩
abbrev mX2_init : eb_M := (yX2_init, cX2_init, 2, none)
theorem miX2_init : eb_MI mX2_init 0 := ⟨⟨(eb_tb2 98 rfl rfl), (eb_tb1 13 rfl rfl), ⟨nhRX2.1, nhRX2.2, by decide +kernel⟩, by decide⟩, (eb_tb2 97 rfl rfl), rfl, rfl⟩
abbrev mX8_init : eb_M := (yX8_init, cX8_init, 3, none)
theorem miX8_init : eb_MI mX8_init 1 := ⟨⟨(eb_tb2 118 rfl rfl), (eb_tb1 14 rfl rfl), ⟨nhRX8.1, nhRX8.2, by decide +kernel⟩, by decide⟩, (eb_tb2 117 rfl rfl), rfl, rfl⟩
abbrev mX1_init : eb_M := (yX1_init, cX1_init, 1, none)
theorem miX1_init : eb_MI mX1_init 0 := ⟨⟨(eb_tb2 142 rfl rfl), (eb_tb1 15 rfl rfl), ⟨nhRX1.1, nhRX1.2, by decide +kernel⟩, by decide⟩, (eb_tb2 141 rfl rfl), rfl, rfl⟩
abbrev mX0_init : eb_M := (yX0_init, cX0_init, 1, none)
theorem miX0_init : eb_MI mX0_init 0 := ⟨⟨(eb_tb2 152 rfl rfl), (eb_tb1 16 rfl rfl), ⟨nhRX0.1, nhRX0.2, by decide +kernel⟩, by decide⟩, (eb_tb2 151 rfl rfl), rfl, rfl⟩
abbrev mX3_init : eb_M := (yX3_init, cX3_init, 1, none)
theorem miX3_init : eb_MI mX3_init 0 := ⟨⟨(eb_tb2 169 rfl rfl), (eb_tb1 17 rfl rfl), ⟨nhRX3.1, nhRX3.2, by decide +kernel⟩, by decide⟩, (eb_tb2 168 rfl rfl), rfl, rfl⟩
abbrev mX10_sign : eb_M := (yX10_sign, cX10_sign, 2, some .int)
theorem mvX10_sign : eb_MV mX10_sign 1 10 := ⟨⟨(eb_tb2 236 rfl rfl), (eb_tb1 1 rfl rfl), ⟨nhRX10.1, nhRX10.2, by decide +kernel⟩, by decide⟩, (eb_tb2 234 rfl rfl), (eb_tb2 235 rfl rfl), by decide, _, _, rfl⟩
abbrev mX9_takeFour : eb_M := (yX9_takeFour, cX9_takeFour, 3, some .boolean)
theorem mvX9_takeFour : eb_MV mX9_takeFour 1 9 := ⟨⟨(eb_tb3 0 rfl rfl), (eb_tb1 2 rfl rfl), ⟨nhRX9.1, nhRX9.2, by decide +kernel⟩, by decide⟩, (eb_tb2 238 rfl rfl), (eb_tb2 239 rfl rfl), by decide, _, _, rfl⟩
abbrev mX10_end : eb_M := (yX10_end, cX10_end, 2, some .boolean)
theorem mvX10_end : eb_MV mX10_end 1 10 := ⟨⟨(eb_tb3 4 rfl rfl), (eb_tb1 1 rfl rfl), ⟨nhRX10.1, nhRX10.2, by decide +kernel⟩, by decide⟩, (eb_tb3 2 rfl rfl), (eb_tb3 3 rfl rfl), by decide, _, _, rfl⟩
abbrev mX9_cut : eb_M := (yX9_cut, cX9_cut, 2, some .boolean)
theorem mvX9_cut : eb_MV mX9_cut 1 9 := ⟨⟨(eb_tb3 8 rfl rfl), (eb_tb1 2 rfl rfl), ⟨nhRX9.1, nhRX9.2, by decide +kernel⟩, by decide⟩, (eb_tb3 6 rfl rfl), (eb_tb3 7 rfl rfl), by decide, _, _, rfl⟩
abbrev mX10_thoughts : eb_M := (yX10_thoughts, cX10_thoughts, 3, some .int)
theorem mvX10_thoughts : eb_MV mX10_thoughts 0 10 := ⟨⟨(eb_tb3 12 rfl rfl), (eb_tb1 1 rfl rfl), ⟨nhRX10.1, nhRX10.2, by decide +kernel⟩, by decide⟩, (eb_tb3 10 rfl rfl), (eb_tb3 11 rfl rfl), by decide, _, _, rfl⟩
abbrev mX9_thoughtsFault : eb_M := (yX9_thoughtsFault, cX9_thoughtsFault, 2, some .int)
theorem mvX9_thoughtsFault : eb_MV mX9_thoughtsFault 0 9 := ⟨⟨(eb_tb3 16 rfl rfl), (eb_tb1 2 rfl rfl), ⟨nhRX9.1, nhRX9.2, by decide +kernel⟩, by decide⟩, (eb_tb3 14 rfl rfl), (eb_tb3 15 rfl rfl), by decide, _, _, rfl⟩
abbrev mX9_faultOf : eb_M := (yX9_faultOf, cX9_faultOf, 5, some .int)
theorem mvX9_faultOf : eb_MV mX9_faultOf 2 9 := ⟨⟨(eb_tb3 21 rfl rfl), (eb_tb1 2 rfl rfl), ⟨nhRX9.1, nhRX9.2, by decide +kernel⟩, by decide⟩, (eb_tb3 20 rfl rfl), (eb_tbp 10 rfl rfl), by decide, _, _, rfl⟩
abbrev mJ0_charAt_5068e : eb_M := (yJ0_charAt_5068e, cJ0_charAt_5068e, 2, some .char)
theorem mcJ0_charAt_5068e : eb_MC mJ0_charAt_5068e 1 := ⟨(eb_tb3 26 rfl rfl), (eb_tb1 6 rfl rfl), ⟨nhRJ0.1, nhRJ0.2, by decide +kernel⟩, by decide⟩
theorem mtJ0_charAt_5068e : Cond.instanceMethod (mJ0_charAt_5068e).1 ∈ eb_tbl ∧ Cond.selects (mJ0_charAt_5068e).1.cls (mJ0_charAt_5068e).1 (mJ0_charAt_5068e).1 ∈ eb_tbl := ⟨(eb_tb3 24 rfl rfl), (eb_tb3 25 rfl rfl)⟩
abbrev mJ1_charAt_3b067 : eb_M := (yJ1_charAt_3b067, cJ1_charAt_3b067, 2, some .char)
theorem msJ1_charAt_3b067 : eb_MS mJ1_charAt_3b067 2 := ⟨⟨(eb_tb3 29 rfl rfl), (eb_tb1 7 rfl rfl), ⟨nhRJ1.1, nhRJ1.2, by decide +kernel⟩, by decide⟩, (eb_tb3 28 rfl rfl)⟩
abbrev mJ0_checkIndex_df160 : eb_M := (yJ0_checkIndex_df160, cJ0_checkIndex_df160, 2, none)
theorem msJ0_checkIndex_df160 : eb_MS mJ0_checkIndex_df160 2 := ⟨⟨(eb_tb3 32 rfl rfl), (eb_tb1 6 rfl rfl), ⟨nhRJ0.1, nhRJ0.2, by decide +kernel⟩, by decide⟩, (eb_tb3 31 rfl rfl)⟩
abbrev mJ3_checkIndex_8e157 : eb_M := (yJ3_checkIndex_8e157, cJ3_checkIndex_8e157, 3, some .int)
theorem msJ3_checkIndex_8e157 : eb_MS mJ3_checkIndex_8e157 3 := ⟨⟨(eb_tb3 35 rfl rfl), (eb_tb1 10 rfl rfl), ⟨nhRJ3.1, nhRJ3.2, by decide +kernel⟩, by decide⟩, (eb_tb3 34 rfl rfl)⟩
abbrev mJ2_charAt_3b067 : eb_M := (yJ2_charAt_3b067, cJ2_charAt_3b067, 2, some .char)
theorem msJ2_charAt_3b067 : eb_MS mJ2_charAt_3b067 2 := ⟨⟨(eb_tb3 38 rfl rfl), (eb_tb1 9 rfl rfl), ⟨nhRJ2.1, nhRJ2.2, by decide +kernel⟩, by decide⟩, (eb_tb3 37 rfl rfl)⟩
abbrev mJ2_checkIndex_2214a : eb_M := (yJ2_checkIndex_2214a, cJ2_checkIndex_2214a, 2, none)
theorem msJ2_checkIndex_2214a : eb_MS mJ2_checkIndex_2214a 2 := ⟨⟨(eb_tb3 41 rfl rfl), (eb_tb1 9 rfl rfl), ⟨nhRJ2.1, nhRJ2.2, by decide +kernel⟩, by decide⟩, (eb_tb3 40 rfl rfl)⟩
abbrev mX9_stands : eb_M := (yX9_stands, cX9_stands, 2, some .boolean)
theorem msX9_stands : eb_MS mX9_stands 2 := ⟨⟨(eb_tb3 45 rfl rfl), (eb_tb1 2 rfl rfl), ⟨nhRX9.1, nhRX9.2, by decide +kernel⟩, by decide⟩, (eb_tb3 44 rfl rfl)⟩
abbrev mX6_takePrices : eb_M := (yX6_takePrices, cX6_takePrices, 4, some .int)
theorem mvX6_takePrices : eb_MV mX6_takePrices 1 6 := ⟨⟨(eb_tb3 50 rfl rfl), (eb_tb1 4 rfl rfl), ⟨nhRX6.1, nhRX6.2, by decide +kernel⟩, by decide⟩, (eb_tb3 48 rfl rfl), (eb_tb3 49 rfl rfl), by decide, _, _, rfl⟩
abbrev mX9_digit : eb_M := (yX9_digit, cX9_digit, 2, some .int)
theorem mvX9_digit : eb_MV mX9_digit 1 9 := ⟨⟨(eb_tb3 54 rfl rfl), (eb_tb1 2 rfl rfl), ⟨nhRX9.1, nhRX9.2, by decide +kernel⟩, by decide⟩, (eb_tb3 52 rfl rfl), (eb_tb3 53 rfl rfl), by decide, _, _, rfl⟩
abbrev mX9_at : eb_M := (yX9_at, cX9_at, 2, some .int)
theorem mvX9_at : eb_MV mX9_at 1 9 := ⟨⟨(eb_tb3 58 rfl rfl), (eb_tb1 2 rfl rfl), ⟨nhRX9.1, nhRX9.2, by decide +kernel⟩, by decide⟩, (eb_tb3 56 rfl rfl), (eb_tb3 57 rfl rfl), by decide, _, _, rfl⟩
abbrev mX9_empty : eb_M := (yX9_empty, cX9_empty, 1, none)
theorem mvX9_empty : eb_MV mX9_empty 0 9 := ⟨⟨(eb_tb3 62 rfl rfl), (eb_tb1 2 rfl rfl), ⟨nhRX9.1, nhRX9.2, by decide +kernel⟩, by decide⟩, (eb_tb3 60 rfl rfl), (eb_tb3 61 rfl rfl), by decide, _, _, rfl⟩
abbrev mX10_brothers : eb_M := (yX10_brothers, cX10_brothers, 3, some .int)
theorem mvX10_brothers : eb_MV mX10_brothers 0 10 := ⟨⟨(eb_tb3 66 rfl rfl), (eb_tb1 1 rfl rfl), ⟨nhRX10.1, nhRX10.2, by decide +kernel⟩, by decide⟩, (eb_tb3 64 rfl rfl), (eb_tb3 65 rfl rfl), by decide, _, _, rfl⟩
abbrev mX9_brothersFault : eb_M := (yX9_brothersFault, cX9_brothersFault, 5, some .int)
theorem mvX9_brothersFault : eb_MV mX9_brothersFault 1 9 := ⟨⟨(eb_tb3 70 rfl rfl), (eb_tb1 2 rfl rfl), ⟨nhRX9.1, nhRX9.2, by decide +kernel⟩, by decide⟩, (eb_tb3 68 rfl rfl), (eb_tb3 69 rfl rfl), by decide, _, _, rfl⟩
abbrev mX7_takeBrothers : eb_M := (yX7_takeBrothers, cX7_takeBrothers, 4, some .int)
theorem mvX7_takeBrothers : eb_MV mX7_takeBrothers 1 7 := ⟨⟨(eb_tb3 76 rfl rfl), (eb_tb1 12 rfl rfl), ⟨nhRX7.1, nhRX7.2, by decide +kernel⟩, by decide⟩, (eb_tb3 74 rfl rfl), (eb_tb3 75 rfl rfl), by decide, _, _, rfl⟩
abbrev mX9_signed : eb_M := (yX9_signed, cX9_signed, 2, some .int)
theorem mvX9_signed : eb_MV mX9_signed 1 9 := ⟨⟨(eb_tb3 81 rfl rfl), (eb_tb1 2 rfl rfl), ⟨nhRX9.1, nhRX9.2, by decide +kernel⟩, by decide⟩, (eb_tb3 79 rfl rfl), (eb_tb3 80 rfl rfl), by decide, _, _, rfl⟩
abbrev mX2_empty : eb_M := (yX2_empty, cX2_empty, 1, none)
theorem mvX2_empty : eb_MV mX2_empty 0 2 := ⟨⟨(eb_tb3 86 rfl rfl), (eb_tb1 13 rfl rfl), ⟨nhRX2.1, nhRX2.2, by decide +kernel⟩, by decide⟩, (eb_tb3 84 rfl rfl), (eb_tb3 85 rfl rfl), by decide, _, _, rfl⟩
abbrev mX10_winds : eb_M := (yX10_winds, cX10_winds, 3, some .int)
theorem mvX10_winds : eb_MV mX10_winds 0 10 := ⟨⟨(eb_tb3 90 rfl rfl), (eb_tb1 1 rfl rfl), ⟨nhRX10.1, nhRX10.2, by decide +kernel⟩, by decide⟩, (eb_tb3 88 rfl rfl), (eb_tb3 89 rfl rfl), by decide, _, _, rfl⟩
abbrev mX9_windsFault : eb_M := (yX9_windsFault, cX9_windsFault, 2, some .int)
theorem mvX9_windsFault : eb_MV mX9_windsFault 0 9 := ⟨⟨(eb_tb3 94 rfl rfl), (eb_tb1 2 rfl rfl), ⟨nhRX9.1, nhRX9.2, by decide +kernel⟩, by decide⟩, (eb_tb3 92 rfl rfl), (eb_tb3 93 rfl rfl), by decide, _, _, rfl⟩
abbrev mX6_takeWinds : eb_M := (yX6_takeWinds, cX6_takeWinds, 3, some .int)
theorem mvX6_takeWinds : eb_MV mX6_takeWinds 1 6 := ⟨⟨(eb_tb3 99 rfl rfl), (eb_tb1 4 rfl rfl), ⟨nhRX6.1, nhRX6.2, by decide +kernel⟩, by decide⟩, (eb_tb3 97 rfl rfl), (eb_tb3 98 rfl rfl), by decide, _, _, rfl⟩
abbrev mX10_rule : eb_M := (yX10_rule, cX10_rule, 2, some .int)
theorem mvX10_rule : eb_MV mX10_rule 0 10 := ⟨⟨(eb_tb3 104 rfl rfl), (eb_tb1 1 rfl rfl), ⟨nhRX10.1, nhRX10.2, by decide +kernel⟩, by decide⟩, (eb_tb3 102 rfl rfl), (eb_tb3 103 rfl rfl), by decide, _, _, rfl⟩
abbrev mX5_read : eb_M := (yX5_read, cX5_read, 4, some .int)
theorem mvX5_read : eb_MV mX5_read 1 5 := ⟨⟨(eb_tb3 108 rfl rfl), (eb_tb1 5 rfl rfl), ⟨nhRX5.1, nhRX5.2, by decide +kernel⟩, by decide⟩, (eb_tb3 106 rfl rfl), (eb_tb3 107 rfl rfl), by decide, _, _, rfl⟩
abbrev mX6_changeRules : eb_M := (yX6_changeRules, cX6_changeRules, 2, none)
theorem mvX6_changeRules : eb_MV mX6_changeRules 0 6 := ⟨⟨(eb_tb3 113 rfl rfl), (eb_tb1 4 rfl rfl), ⟨nhRX6.1, nhRX6.2, by decide +kernel⟩, by decide⟩, (eb_tb3 111 rfl rfl), (eb_tb3 112 rfl rfl), by decide, _, _, rfl⟩
abbrev mX10_sheet : eb_M := (yX10_sheet, cX10_sheet, 5, some .int)
theorem mvX10_sheet : eb_MV mX10_sheet 4 10 := ⟨⟨(eb_tb3 117 rfl rfl), (eb_tb1 1 rfl rfl), ⟨nhRX10.1, nhRX10.2, by decide +kernel⟩, by decide⟩, (eb_tb3 115 rfl rfl), (eb_tb3 116 rfl rfl), by decide, _, _, rfl⟩
abbrev mX7_takeSheet : eb_M := (yX7_takeSheet, cX7_takeSheet, 8, none)
theorem mvX7_takeSheet : eb_MV mX7_takeSheet 4 7 := ⟨⟨(eb_tb3 122 rfl rfl), (eb_tb1 12 rfl rfl), ⟨nhRX7.1, nhRX7.2, by decide +kernel⟩, by decide⟩, (eb_tb3 120 rfl rfl), (eb_tb3 121 rfl rfl), by decide, _, _, rfl⟩
abbrev mX10_putTo : eb_M := (yX10_putTo, cX10_putTo, 3, some .int)
theorem msX10_putTo : eb_MS mX10_putTo 3 := ⟨⟨(eb_tb3 125 rfl rfl), (eb_tb1 1 rfl rfl), ⟨nhRX10.1, nhRX10.2, by decide +kernel⟩, by decide⟩, (eb_tb3 124 rfl rfl)⟩
abbrev mX7_gravityOfAll : eb_M := (yX7_gravityOfAll, cX7_gravityOfAll, 3, some .int)
theorem mvX7_gravityOfAll : eb_MV mX7_gravityOfAll 0 7 := ⟨⟨(eb_tb3 129 rfl rfl), (eb_tb1 12 rfl rfl), ⟨nhRX7.1, nhRX7.2, by decide +kernel⟩, by decide⟩, (eb_tb3 127 rfl rfl), (eb_tb3 128 rfl rfl), by decide, _, _, rfl⟩
abbrev mX10_hours : eb_M := (yX10_hours, cX10_hours, 3, some .int)
theorem mvX10_hours : eb_MV mX10_hours 1 10 := ⟨⟨(eb_tb3 133 rfl rfl), (eb_tb1 1 rfl rfl), ⟨nhRX10.1, nhRX10.2, by decide +kernel⟩, by decide⟩, (eb_tb3 131 rfl rfl), (eb_tb3 132 rfl rfl), by decide, _, _, rfl⟩
abbrev mX7_copy : eb_M := (yX7_copy, cX7_copy, 3, none)
theorem mvX7_copy : eb_MV mX7_copy 1 7 := ⟨⟨(eb_tb3 137 rfl rfl), (eb_tb1 12 rfl rfl), ⟨nhRX7.1, nhRX7.2, by decide +kernel⟩, by decide⟩, (eb_tb3 135 rfl rfl), (eb_tb3 136 rfl rfl), by decide, _, _, rfl⟩
abbrev mX6_begin : eb_M := (yX6_begin, cX6_begin, 1, none)
theorem mvX6_begin : eb_MV mX6_begin 0 6 := ⟨⟨(eb_tb3 141 rfl rfl), (eb_tb1 4 rfl rfl), ⟨nhRX6.1, nhRX6.2, by decide +kernel⟩, by decide⟩, (eb_tb3 139 rfl rfl), (eb_tb3 140 rfl rfl), by decide, _, _, rfl⟩
abbrev mX6_letHoursGo : eb_M := (yX6_letHoursGo, cX6_letHoursGo, 7, some .int)
theorem mvX6_letHoursGo : eb_MV mX6_letHoursGo 2 6 := ⟨⟨(eb_tb3 145 rfl rfl), (eb_tb1 4 rfl rfl), ⟨nhRX6.1, nhRX6.2, by decide +kernel⟩, by decide⟩, (eb_tb3 143 rfl rfl), (eb_tb3 144 rfl rfl), by decide, _, _, rfl⟩
abbrev mX6_windAt : eb_M := (yX6_windAt, cX6_windAt, 3, some .int)
theorem mvX6_windAt : eb_MV mX6_windAt 1 6 := ⟨⟨(eb_tb3 149 rfl rfl), (eb_tb1 4 rfl rfl), ⟨nhRX6.1, nhRX6.2, by decide +kernel⟩, by decide⟩, (eb_tb3 147 rfl rfl), (eb_tb3 148 rfl rfl), by decide, _, _, rfl⟩
abbrev mX6_ballastInHours : eb_M := (yX6_ballastInHours, cX6_ballastInHours, 7, some .int)
theorem mvX6_ballastInHours : eb_MV mX6_ballastInHours 1 6 := ⟨⟨(eb_tb3 153 rfl rfl), (eb_tb1 4 rfl rfl), ⟨nhRX6.1, nhRX6.2, by decide +kernel⟩, by decide⟩, (eb_tb3 151 rfl rfl), (eb_tb3 152 rfl rfl), by decide, _, _, rfl⟩
abbrev mJ9_abs_0f7a4 : eb_M := (yJ9_abs_0f7a4, cJ9_abs_0f7a4, 1, some .int)
theorem msJ9_abs_0f7a4 : eb_MS mJ9_abs_0f7a4 1 := ⟨⟨(eb_tb3 156 rfl rfl), (eb_tb1 8 rfl rfl), ⟨nhRJ9.1, nhRJ9.2, by decide +kernel⟩, by decide⟩, (eb_tb3 155 rfl rfl)⟩
abbrev mX7_othersLike : eb_M := (yX7_othersLike, cX7_othersLike, 4, some .int)
theorem mvX7_othersLike : eb_MV mX7_othersLike 1 7 := ⟨⟨(eb_tb3 161 rfl rfl), (eb_tb1 12 rfl rfl), ⟨nhRX7.1, nhRX7.2, by decide +kernel⟩, by decide⟩, (eb_tb3 159 rfl rfl), (eb_tb3 160 rfl rfl), by decide, _, _, rfl⟩
abbrev mX6_weightAs : eb_M := (yX6_weightAs, cX6_weightAs, 5, some .int)
theorem mvX6_weightAs : eb_MV mX6_weightAs 4 6 := ⟨⟨(eb_tb3 165 rfl rfl), (eb_tb1 4 rfl rfl), ⟨nhRX6.1, nhRX6.2, by decide +kernel⟩, by decide⟩, (eb_tb3 163 rfl rfl), (eb_tb3 164 rfl rfl), by decide, _, _, rfl⟩
abbrev mX6_priceOf : eb_M := (yX6_priceOf, cX6_priceOf, 2, some .int)
theorem mvX6_priceOf : eb_MV mX6_priceOf 1 6 := ⟨⟨(eb_tb3 169 rfl rfl), (eb_tb1 4 rfl rfl), ⟨nhRX6.1, nhRX6.2, by decide +kernel⟩, by decide⟩, (eb_tb3 167 rfl rfl), (eb_tb3 168 rfl rfl), by decide, _, _, rfl⟩
abbrev mX5_valueBy : eb_M := (yX5_valueBy, cX5_valueBy, 7, some .int)
theorem mvX5_valueBy : eb_MV mX5_valueBy 1 5 := ⟨⟨(eb_tb3 173 rfl rfl), (eb_tb1 5 rfl rfl), ⟨nhRX5.1, nhRX5.2, by decide +kernel⟩, by decide⟩, (eb_tb3 171 rfl rfl), (eb_tb3 172 rfl rfl), by decide, _, _, rfl⟩
abbrev mX5_joined : eb_M := (yX5_joined, cX5_joined, 3, some .int)
theorem msX5_joined : eb_MS mX5_joined 3 := ⟨⟨(eb_tb3 176 rfl rfl), (eb_tb1 5 rfl rfl), ⟨nhRX5.1, nhRX5.2, by decide +kernel⟩, by decide⟩, (eb_tb3 175 rfl rfl)⟩
abbrev mX10_pullOf : eb_M := (yX10_pullOf, cX10_pullOf, 3, some .int)
theorem msX10_pullOf : eb_MS mX10_pullOf 3 := ⟨⟨(eb_tb3 179 rfl rfl), (eb_tb1 1 rfl rfl), ⟨nhRX10.1, nhRX10.2, by decide +kernel⟩, by decide⟩, (eb_tb3 178 rfl rfl)⟩
abbrev mX10_leanBy : eb_M := (yX10_leanBy, cX10_leanBy, 4, some .int)
theorem msX10_leanBy : eb_MS mX10_leanBy 2 := ⟨⟨(eb_tb3 183 rfl rfl), (eb_tb1 1 rfl rfl), ⟨nhRX10.1, nhRX10.2, by decide +kernel⟩, by decide⟩, (eb_tb3 182 rfl rfl)⟩
abbrev mX2_add : eb_M := (yX2_add, cX2_add, 2, none)
theorem mvX2_add : eb_MV mX2_add 1 2 := ⟨⟨(eb_tb3 191 rfl rfl), (eb_tb1 13 rfl rfl), ⟨nhRX2.1, nhRX2.2, by decide +kernel⟩, by decide⟩, (eb_tb3 189 rfl rfl), (eb_tb3 190 rfl rfl), by decide, _, _, rfl⟩
abbrev mX4_tell_ : eb_M := (yX4_tell_, cX4_tell_, 3, none)
theorem mvX4_tell_ : eb_MV mX4_tell_ 2 4 := ⟨⟨(eb_tb3 196 rfl rfl), (eb_tb1 3 rfl rfl), ⟨nhRX4.1, nhRX4.2, by decide +kernel⟩, by decide⟩, (eb_tb3 194 rfl rfl), (eb_tb3 195 rfl rfl), by decide, _, _, rfl⟩
abbrev mX4_empty : eb_M := (yX4_empty, cX4_empty, 1, none)
theorem mvX4_empty : eb_MV mX4_empty 0 4 := ⟨⟨(eb_tb3 200 rfl rfl), (eb_tb1 3 rfl rfl), ⟨nhRX4.1, nhRX4.2, by decide +kernel⟩, by decide⟩, (eb_tb3 198 rfl rfl), (eb_tb3 199 rfl rfl), by decide, _, _, rfl⟩
abbrev mX4_add : eb_M := (yX4_add, cX4_add, 2, none)
theorem mvX4_add : eb_MV mX4_add 1 4 := ⟨⟨(eb_tb3 204 rfl rfl), (eb_tb1 3 rfl rfl), ⟨nhRX4.1, nhRX4.2, by decide +kernel⟩, by decide⟩, (eb_tb3 202 rfl rfl), (eb_tb3 203 rfl rfl), by decide, _, _, rfl⟩
abbrev mX10_tells : eb_M := (yX10_tells, cX10_tells, 3, some .int)
theorem mvX10_tells : eb_MV mX10_tells 2 10 := ⟨⟨(eb_tb3 208 rfl rfl), (eb_tb1 1 rfl rfl), ⟨nhRX10.1, nhRX10.2, by decide +kernel⟩, by decide⟩, (eb_tb3 206 rfl rfl), (eb_tb3 207 rfl rfl), by decide, _, _, rfl⟩
abbrev mX7_tell : eb_M := (yX7_tell, cX7_tell, 4, some .int)
theorem mvX7_tell : eb_MV mX7_tell 2 7 := ⟨⟨(eb_tb3 212 rfl rfl), (eb_tb1 12 rfl rfl), ⟨nhRX7.1, nhRX7.2, by decide +kernel⟩, by decide⟩, (eb_tb3 210 rfl rfl), (eb_tb3 211 rfl rfl), by decide, _, _, rfl⟩
abbrev mX7_has : eb_M := (yX7_has, cX7_has, 2, some .boolean)
theorem mvX7_has : eb_MV mX7_has 1 7 := ⟨⟨(eb_tb3 216 rfl rfl), (eb_tb1 12 rfl rfl), ⟨nhRX7.1, nhRX7.2, by decide +kernel⟩, by decide⟩, (eb_tb3 214 rfl rfl), (eb_tb3 215 rfl rfl), by decide, _, _, rfl⟩
abbrev mX10_remembered : eb_M := (yX10_remembered, cX10_remembered, 2, some .int)
theorem mvX10_remembered : eb_MV mX10_remembered 1 10 := ⟨⟨(eb_tb3 221 rfl rfl), (eb_tb1 1 rfl rfl), ⟨nhRX10.1, nhRX10.2, by decide +kernel⟩, by decide⟩, (eb_tb3 220 rfl rfl), (eb_tbp 11 rfl rfl), by decide, _, _, rfl⟩
abbrev mX10_moves : eb_M := (yX10_moves, cX10_moves, 3, some .int)
theorem mvX10_moves : eb_MV mX10_moves 2 10 := ⟨⟨(eb_tb3 225 rfl rfl), (eb_tb1 1 rfl rfl), ⟨nhRX10.1, nhRX10.2, by decide +kernel⟩, by decide⟩, (eb_tb3 223 rfl rfl), (eb_tb3 224 rfl rfl), by decide, _, _, rfl⟩
abbrev mX7_move : eb_M := (yX7_move, cX7_move, 4, some .int)
theorem mvX7_move : eb_MV mX7_move 2 7 := ⟨⟨(eb_tb3 229 rfl rfl), (eb_tb1 12 rfl rfl), ⟨nhRX7.1, nhRX7.2, by decide +kernel⟩, by decide⟩, (eb_tb3 227 rfl rfl), (eb_tb3 228 rfl rfl), by decide, _, _, rfl⟩
abbrev mX10_eases : eb_M := (yX10_eases, cX10_eases, 2, some .int)
theorem mvX10_eases : eb_MV mX10_eases 1 10 := ⟨⟨(eb_tb3 234 rfl rfl), (eb_tb1 1 rfl rfl), ⟨nhRX10.1, nhRX10.2, by decide +kernel⟩, by decide⟩, (eb_tb3 232 rfl rfl), (eb_tb3 233 rfl rfl), by decide, _, _, rfl⟩
abbrev mX7_ease : eb_M := (yX7_ease, cX7_ease, 2, some .int)
theorem mvX7_ease : eb_MV mX7_ease 1 7 := ⟨⟨(eb_tb3 238 rfl rfl), (eb_tb1 12 rfl rfl), ⟨nhRX7.1, nhRX7.2, by decide +kernel⟩, by decide⟩, (eb_tb3 236 rfl rfl), (eb_tb3 237 rfl rfl), by decide, _, _, rfl⟩
abbrev mX10_preaches : eb_M := (yX10_preaches, cX10_preaches, 3, some .int)
theorem mvX10_preaches : eb_MV mX10_preaches 2 10 := ⟨⟨(eb_tb4 2 rfl rfl), (eb_tb1 1 rfl rfl), ⟨nhRX10.1, nhRX10.2, by decide +kernel⟩, by decide⟩, (eb_tb4 0 rfl rfl), (eb_tb4 1 rfl rfl), by decide, _, _, rfl⟩
abbrev mX7_preach : eb_M := (yX7_preach, cX7_preach, 3, some .int)
theorem mvX7_preach : eb_MV mX7_preach 2 7 := ⟨⟨(eb_tb4 6 rfl rfl), (eb_tb1 12 rfl rfl), ⟨nhRX7.1, nhRX7.2, by decide +kernel⟩, by decide⟩, (eb_tb4 4 rfl rfl), (eb_tb4 5 rfl rfl), by decide, _, _, rfl⟩
abbrev mX10_sails : eb_M := (yX10_sails, cX10_sails, 2, some .int)
theorem mvX10_sails : eb_MV mX10_sails 1 10 := ⟨⟨(eb_tb4 11 rfl rfl), (eb_tb1 1 rfl rfl), ⟨nhRX10.1, nhRX10.2, by decide +kernel⟩, by decide⟩, (eb_tb4 9 rfl rfl), (eb_tb4 10 rfl rfl), by decide, _, _, rfl⟩
abbrev mX7_setSail : eb_M := (yX7_setSail, cX7_setSail, 3, some .int)
theorem mvX7_setSail : eb_MV mX7_setSail 1 7 := ⟨⟨(eb_tb4 15 rfl rfl), (eb_tb1 12 rfl rfl), ⟨nhRX7.1, nhRX7.2, by decide +kernel⟩, by decide⟩, (eb_tb4 13 rfl rfl), (eb_tb4 14 rfl rfl), by decide, _, _, rfl⟩
abbrev mX10_watch : eb_M := (yX10_watch, cX10_watch, 5, some .int)
theorem mvX10_watch : eb_MV mX10_watch 0 10 := ⟨⟨(eb_tb4 19 rfl rfl), (eb_tb1 1 rfl rfl), ⟨nhRX10.1, nhRX10.2, by decide +kernel⟩, by decide⟩, (eb_tb4 17 rfl rfl), (eb_tb4 18 rfl rfl), by decide, _, _, rfl⟩
abbrev mX9_watchFault : eb_M := (yX9_watchFault, cX9_watchFault, 4, some .int)
theorem mvX9_watchFault : eb_MV mX9_watchFault 0 9 := ⟨⟨(eb_tb4 23 rfl rfl), (eb_tb1 2 rfl rfl), ⟨nhRX9.1, nhRX9.2, by decide +kernel⟩, by decide⟩, (eb_tb4 21 rfl rfl), (eb_tb4 22 rfl rfl), by decide, _, _, rfl⟩
abbrev mX9_formOfAct : eb_M := (yX9_formOfAct, cX9_formOfAct, 1, some (.object "java/lang/String"))
theorem msX9_formOfAct : eb_MS mX9_formOfAct 1 := ⟨⟨(eb_tb4 27 rfl rfl), (eb_tb1 2 rfl rfl), ⟨nhRX9.1, nhRX9.2, by decide +kernel⟩, by decide⟩, (eb_tb4 26 rfl rfl)⟩
abbrev mX10_act : eb_M := (yX10_act, cX10_act, 2, some .int)
theorem mvX10_act : eb_MV mX10_act 1 10 := ⟨⟨(eb_tb4 37 rfl rfl), (eb_tb1 1 rfl rfl), ⟨nhRX10.1, nhRX10.2, by decide +kernel⟩, by decide⟩, (eb_tb4 36 rfl rfl), (eb_tbp 12 rfl rfl), by decide, _, _, rfl⟩
abbrev mX10_undo : eb_M := (yX10_undo, cX10_undo, 1, some .int)
theorem mvX10_undo : eb_MV mX10_undo 0 10 := ⟨⟨(eb_tb4 47 rfl rfl), (eb_tb1 1 rfl rfl), ⟨nhRX10.1, nhRX10.2, by decide +kernel⟩, by decide⟩, (eb_tb4 45 rfl rfl), (eb_tb4 46 rfl rfl), by decide, _, _, rfl⟩
abbrev mX2_takeLatest : eb_M := (yX2_takeLatest, cX2_takeLatest, 2, some .boolean)
theorem mvX2_takeLatest : eb_MV mX2_takeLatest 1 2 := ⟨⟨(eb_tb4 51 rfl rfl), (eb_tb1 13 rfl rfl), ⟨nhRX2.1, nhRX2.2, by decide +kernel⟩, by decide⟩, (eb_tb4 49 rfl rfl), (eb_tb4 50 rfl rfl), by decide, _, _, rfl⟩
abbrev mX10_moment : eb_M := (yX10_moment, cX10_moment, 5, some .int)
theorem mvX10_moment : eb_MV mX10_moment 0 10 := ⟨⟨(eb_tb4 55 rfl rfl), (eb_tb1 1 rfl rfl), ⟨nhRX10.1, nhRX10.2, by decide +kernel⟩, by decide⟩, (eb_tb4 53 rfl rfl), (eb_tb4 54 rfl rfl), by decide, _, _, rfl⟩
abbrev mX10_weighAll : eb_M := (yX10_weighAll, cX10_weighAll, 2, none)
theorem mvX10_weighAll : eb_MV mX10_weighAll 0 10 := ⟨⟨(eb_tb4 59 rfl rfl), (eb_tb1 1 rfl rfl), ⟨nhRX10.1, nhRX10.2, by decide +kernel⟩, by decide⟩, (eb_tb4 58 rfl rfl), (eb_tbp 13 rfl rfl), by decide, _, _, rfl⟩
abbrev mX6_weight : eb_M := (yX6_weight, cX6_weight, 3, some .int)
theorem mvX6_weight : eb_MV mX6_weight 2 6 := ⟨⟨(eb_tb4 63 rfl rfl), (eb_tb1 4 rfl rfl), ⟨nhRX6.1, nhRX6.2, by decide +kernel⟩, by decide⟩, (eb_tb4 61 rfl rfl), (eb_tb4 62 rfl rfl), by decide, _, _, rfl⟩
abbrev mX4_tell__ : eb_M := (yX4_tell__, cX4_tell__, 4, none)
theorem mvX4_tell__ : eb_MV mX4_tell__ 3 4 := ⟨⟨(eb_tb4 69 rfl rfl), (eb_tb1 3 rfl rfl), ⟨nhRX4.1, nhRX4.2, by decide +kernel⟩, by decide⟩, (eb_tb4 67 rfl rfl), (eb_tb4 68 rfl rfl), by decide, _, _, rfl⟩
abbrev mX10_later : eb_M := (yX10_later, cX10_later, 2, some .int)
theorem mvX10_later : eb_MV mX10_later 1 10 := ⟨⟨(eb_tb4 73 rfl rfl), (eb_tb1 1 rfl rfl), ⟨nhRX10.1, nhRX10.2, by decide +kernel⟩, by decide⟩, (eb_tb4 71 rfl rfl), (eb_tb4 72 rfl rfl), by decide, _, _, rfl⟩
abbrev mX10_lookAhead : eb_M := (yX10_lookAhead, cX10_lookAhead, 1, none)
theorem mvX10_lookAhead : eb_MV mX10_lookAhead 0 10 := ⟨⟨(eb_tb4 77 rfl rfl), (eb_tb1 1 rfl rfl), ⟨nhRX10.1, nhRX10.2, by decide +kernel⟩, by decide⟩, (eb_tb4 76 rfl rfl), (eb_tbp 14 rfl rfl), by decide, _, _, rfl⟩
abbrev mX10_over : eb_M := (yX10_over, cX10_over, 2, some .int)
theorem mvX10_over : eb_MV mX10_over 0 10 := ⟨⟨(eb_tb4 81 rfl rfl), (eb_tb1 1 rfl rfl), ⟨nhRX10.1, nhRX10.2, by decide +kernel⟩, by decide⟩, (eb_tb4 79 rfl rfl), (eb_tb4 80 rfl rfl), by decide, _, _, rfl⟩
abbrev mX4_tell : eb_M := (yX4_tell, cX4_tell, 2, none)
theorem mvX4_tell : eb_MV mX4_tell 1 4 := ⟨⟨(eb_tb4 85 rfl rfl), (eb_tb1 3 rfl rfl), ⟨nhRX4.1, nhRX4.2, by decide +kernel⟩, by decide⟩, (eb_tb4 83 rfl rfl), (eb_tb4 84 rfl rfl), by decide, _, _, rfl⟩
abbrev mX10_when : eb_M := (yX10_when, cX10_when, 5, some .int)
theorem mvX10_when : eb_MV mX10_when 1 10 := ⟨⟨(eb_tb4 89 rfl rfl), (eb_tb1 1 rfl rfl), ⟨nhRX10.1, nhRX10.2, by decide +kernel⟩, by decide⟩, (eb_tb4 87 rfl rfl), (eb_tb4 88 rfl rfl), by decide, _, _, rfl⟩
abbrev mX10_rolls : eb_M := (yX10_rolls, cX10_rolls, 7, some .int)
theorem mvX10_rolls : eb_MV mX10_rolls 1 10 := ⟨⟨(eb_tb4 93 rfl rfl), (eb_tb1 1 rfl rfl), ⟨nhRX10.1, nhRX10.2, by decide +kernel⟩, by decide⟩, (eb_tb4 91 rfl rfl), (eb_tb4 92 rfl rfl), by decide, _, _, rfl⟩
abbrev mX10_steady : eb_M := (yX10_steady, cX10_steady, 7, some .int)
theorem mvX10_steady : eb_MV mX10_steady 2 10 := ⟨⟨(eb_tb4 97 rfl rfl), (eb_tb1 1 rfl rfl), ⟨nhRX10.1, nhRX10.2, by decide +kernel⟩, by decide⟩, (eb_tb4 95 rfl rfl), (eb_tb4 96 rfl rfl), by decide, _, _, rfl⟩
abbrev mX10_makes : eb_M := (yX10_makes, cX10_makes, 3, some .int)
theorem mvX10_makes : eb_MV mX10_makes 1 10 := ⟨⟨(eb_tb4 101 rfl rfl), (eb_tb1 1 rfl rfl), ⟨nhRX10.1, nhRX10.2, by decide +kernel⟩, by decide⟩, (eb_tb4 99 rfl rfl), (eb_tb4 100 rfl rfl), by decide, _, _, rfl⟩
abbrev mX10_steps : eb_M := (yX10_steps, cX10_steps, 2, some .int)
theorem mvX10_steps : eb_MV mX10_steps 1 10 := ⟨⟨(eb_tb4 105 rfl rfl), (eb_tb1 1 rfl rfl), ⟨nhRX10.1, nhRX10.2, by decide +kernel⟩, by decide⟩, (eb_tb4 103 rfl rfl), (eb_tb4 104 rfl rfl), by decide, _, _, rfl⟩
abbrev mX6_ballast : eb_M := (yX6_ballast, cX6_ballast, 2, some .int)
theorem mvX6_ballast : eb_MV mX6_ballast 1 6 := ⟨⟨(eb_tb4 109 rfl rfl), (eb_tb1 4 rfl rfl), ⟨nhRX6.1, nhRX6.2, by decide +kernel⟩, by decide⟩, (eb_tb4 107 rfl rfl), (eb_tb4 108 rfl rfl), by decide, _, _, rfl⟩
abbrev mX10_pullByBallast : eb_M := (yX10_pullByBallast, cX10_pullByBallast, 2, some .int)
theorem mvX10_pullByBallast : eb_MV mX10_pullByBallast 1 10 := ⟨⟨(eb_tb4 114 rfl rfl), (eb_tb1 1 rfl rfl), ⟨nhRX10.1, nhRX10.2, by decide +kernel⟩, by decide⟩, (eb_tb4 113 rfl rfl), (eb_tbp 15 rfl rfl), by decide, _, _, rfl⟩
abbrev mX10_weighAllIfTold : eb_M := (yX10_weighAllIfTold, cX10_weighAllIfTold, 4, none)
theorem mvX10_weighAllIfTold : eb_MV mX10_weighAllIfTold 0 10 := ⟨⟨(eb_tb4 119 rfl rfl), (eb_tb1 1 rfl rfl), ⟨nhRX10.1, nhRX10.2, by decide +kernel⟩, by decide⟩, (eb_tb4 118 rfl rfl), (eb_tbp 16 rfl rfl), by decide, _, _, rfl⟩
abbrev mX10_oneStep : eb_M := (yX10_oneStep, cX10_oneStep, 4, some .boolean)
theorem mvX10_oneStep : eb_MV mX10_oneStep 1 10 := ⟨⟨(eb_tb4 124 rfl rfl), (eb_tb1 1 rfl rfl), ⟨nhRX10.1, nhRX10.2, by decide +kernel⟩, by decide⟩, (eb_tb4 123 rfl rfl), (eb_tbp 17 rfl rfl), by decide, _, _, rfl⟩
abbrev mX10_tellingThatStands : eb_M := (yX10_tellingThatStands, cX10_tellingThatStands, 5, some .int)
theorem mvX10_tellingThatStands : eb_MV mX10_tellingThatStands 2 10 := ⟨⟨(eb_tb4 128 rfl rfl), (eb_tb1 1 rfl rfl), ⟨nhRX10.1, nhRX10.2, by decide +kernel⟩, by decide⟩, (eb_tb4 127 rfl rfl), (eb_tbp 18 rfl rfl), by decide, _, _, rfl⟩
abbrev mX10_guessStands : eb_M := (yX10_guessStands, cX10_guessStands, 5, some .boolean)
theorem mvX10_guessStands : eb_MV mX10_guessStands 1 10 := ⟨⟨(eb_tb4 132 rfl rfl), (eb_tb1 1 rfl rfl), ⟨nhRX10.1, nhRX10.2, by decide +kernel⟩, by decide⟩, (eb_tb4 131 rfl rfl), (eb_tbp 19 rfl rfl), by decide, _, _, rfl⟩
abbrev mX10_twoSteps : eb_M := (yX10_twoSteps, cX10_twoSteps, 4, some .boolean)
theorem mvX10_twoSteps : eb_MV mX10_twoSteps 1 10 := ⟨⟨(eb_tb4 137 rfl rfl), (eb_tb1 1 rfl rfl), ⟨nhRX10.1, nhRX10.2, by decide +kernel⟩, by decide⟩, (eb_tb4 136 rfl rfl), (eb_tbp 20 rfl rfl), by decide, _, _, rfl⟩
abbrev mX10_secondStep : eb_M := (yX10_secondStep, cX10_secondStep, 5, some .boolean)
theorem mvX10_secondStep : eb_MV mX10_secondStep 2 10 := ⟨⟨(eb_tb4 141 rfl rfl), (eb_tb1 1 rfl rfl), ⟨nhRX10.1, nhRX10.2, by decide +kernel⟩, by decide⟩, (eb_tb4 140 rfl rfl), (eb_tbp 21 rfl rfl), by decide, _, _, rfl⟩
abbrev mX10_best : eb_M := (yX10_best, cX10_best, 7, some .int)
theorem mvX10_best : eb_MV mX10_best 1 10 := ⟨⟨(eb_tb4 145 rfl rfl), (eb_tb1 1 rfl rfl), ⟨nhRX10.1, nhRX10.2, by decide +kernel⟩, by decide⟩, (eb_tb4 143 rfl rfl), (eb_tb4 144 rfl rfl), by decide, _, _, rfl⟩
abbrev mX10_trims : eb_M := (yX10_trims, cX10_trims, 6, some .int)
theorem mvX10_trims : eb_MV mX10_trims 1 10 := ⟨⟨(eb_tb4 149 rfl rfl), (eb_tb1 1 rfl rfl), ⟨nhRX10.1, nhRX10.2, by decide +kernel⟩, by decide⟩, (eb_tb4 147 rfl rfl), (eb_tb4 148 rfl rfl), by decide, _, _, rfl⟩
abbrev mX10_frees : eb_M := (yX10_frees, cX10_frees, 6, some .int)
theorem mvX10_frees : eb_MV mX10_frees 0 10 := ⟨⟨(eb_tb4 154 rfl rfl), (eb_tb1 1 rfl rfl), ⟨nhRX10.1, nhRX10.2, by decide +kernel⟩, by decide⟩, (eb_tb4 152 rfl rfl), (eb_tb4 153 rfl rfl), by decide, _, _, rfl⟩
abbrev mX10_ballastOfLoads : eb_M := (yX10_ballastOfLoads, cX10_ballastOfLoads, 3, some .int)
theorem mvX10_ballastOfLoads : eb_MV mX10_ballastOfLoads 0 10 := ⟨⟨(eb_tb4 158 rfl rfl), (eb_tb1 1 rfl rfl), ⟨nhRX10.1, nhRX10.2, by decide +kernel⟩, by decide⟩, (eb_tb4 157 rfl rfl), (eb_tbp 22 rfl rfl), by decide, _, _, rfl⟩
abbrev mX10_bears : eb_M := (yX10_bears, cX10_bears, 5, some .int)
theorem mvX10_bears : eb_MV mX10_bears 0 10 := ⟨⟨(eb_tb4 162 rfl rfl), (eb_tb1 1 rfl rfl), ⟨nhRX10.1, nhRX10.2, by decide +kernel⟩, by decide⟩, (eb_tb4 160 rfl rfl), (eb_tb4 161 rfl rfl), by decide, _, _, rfl⟩
abbrev mX10_parties : eb_M := (yX10_parties, cX10_parties, 6, some .int)
theorem mvX10_parties : eb_MV mX10_parties 0 10 := ⟨⟨(eb_tb4 166 rfl rfl), (eb_tb1 1 rfl rfl), ⟨nhRX10.1, nhRX10.2, by decide +kernel⟩, by decide⟩, (eb_tb4 164 rfl rfl), (eb_tb4 165 rfl rfl), by decide, _, _, rfl⟩
abbrev mX10_loadOf : eb_M := (yX10_loadOf, cX10_loadOf, 4, some .int)
theorem mvX10_loadOf : eb_MV mX10_loadOf 1 10 := ⟨⟨(eb_tb4 170 rfl rfl), (eb_tb1 1 rfl rfl), ⟨nhRX10.1, nhRX10.2, by decide +kernel⟩, by decide⟩, (eb_tb4 169 rfl rfl), (eb_tbp 23 rfl rfl), by decide, _, _, rfl⟩
abbrev mX10_hasBit : eb_M := (yX10_hasBit, cX10_hasBit, 2, some .boolean)
theorem msX10_hasBit : eb_MS mX10_hasBit 2 := ⟨⟨(eb_tb4 173 rfl rfl), (eb_tb1 1 rfl rfl), ⟨nhRX10.1, nhRX10.2, by decide +kernel⟩, by decide⟩, (eb_tb4 172 rfl rfl)⟩
abbrev mX10_just : eb_M := (yX10_just, cX10_just, 6, some .int)
theorem mvX10_just : eb_MV mX10_just 1 10 := ⟨⟨(eb_tb4 177 rfl rfl), (eb_tb1 1 rfl rfl), ⟨nhRX10.1, nhRX10.2, by decide +kernel⟩, by decide⟩, (eb_tb4 175 rfl rfl), (eb_tb4 176 rfl rfl), by decide, _, _, rfl⟩
abbrev mJ6_bitCount_0f7a4 : eb_M := (yJ6_bitCount_0f7a4, cJ6_bitCount_0f7a4, 1, some .int)
theorem msJ6_bitCount_0f7a4 : eb_MS mJ6_bitCount_0f7a4 1 := ⟨⟨(eb_tb4 180 rfl rfl), (eb_tb1 23 rfl rfl), ⟨nhRJ6.1, nhRJ6.2, by decide +kernel⟩, by decide⟩, (eb_tb4 179 rfl rfl)⟩
abbrev mX10_swaps : eb_M := (yX10_swaps, cX10_swaps, 6, some .int)
theorem mvX10_swaps : eb_MV mX10_swaps 0 10 := ⟨⟨(eb_tb4 187 rfl rfl), (eb_tb1 1 rfl rfl), ⟨nhRX10.1, nhRX10.2, by decide +kernel⟩, by decide⟩, (eb_tb4 185 rfl rfl), (eb_tb4 186 rfl rfl), by decide, _, _, rfl⟩
abbrev mX10_pullIfSwapped : eb_M := (yX10_pullIfSwapped, cX10_pullIfSwapped, 4, some .int)
theorem mvX10_pullIfSwapped : eb_MV mX10_pullIfSwapped 2 10 := ⟨⟨(eb_tb4 191 rfl rfl), (eb_tb1 1 rfl rfl), ⟨nhRX10.1, nhRX10.2, by decide +kernel⟩, by decide⟩, (eb_tb4 190 rfl rfl), (eb_tbp 24 rfl rfl), by decide, _, _, rfl⟩
abbrev mX10_line : eb_M := (yX10_line, cX10_line, 4, some .int)
theorem mvX10_line : eb_MV mX10_line 0 10 := ⟨⟨(eb_tb4 195 rfl rfl), (eb_tb1 1 rfl rfl), ⟨nhRX10.1, nhRX10.2, by decide +kernel⟩, by decide⟩, (eb_tb4 193 rfl rfl), (eb_tb4 194 rfl rfl), by decide, _, _, rfl⟩
abbrev mX10_heaviestBut : eb_M := (yX10_heaviestBut, cX10_heaviestBut, 5, some .int)
theorem mvX10_heaviestBut : eb_MV mX10_heaviestBut 1 10 := ⟨⟨(eb_tb4 199 rfl rfl), (eb_tb1 1 rfl rfl), ⟨nhRX10.1, nhRX10.2, by decide +kernel⟩, by decide⟩, (eb_tb4 198 rfl rfl), (eb_tbp 25 rfl rfl), by decide, _, _, rfl⟩
abbrev mX10_apart : eb_M := (yX10_apart, cX10_apart, 4, some .int)
theorem mvX10_apart : eb_MV mX10_apart 0 10 := ⟨⟨(eb_tb4 204 rfl rfl), (eb_tb1 1 rfl rfl), ⟨nhRX10.1, nhRX10.2, by decide +kernel⟩, by decide⟩, (eb_tb4 202 rfl rfl), (eb_tb4 203 rfl rfl), by decide, _, _, rfl⟩
abbrev mX10_allDiffer : eb_M := (yX10_allDiffer, cX10_allDiffer, 6, some .boolean)
theorem mvX10_allDiffer : eb_MV mX10_allDiffer 1 10 := ⟨⟨(eb_tb4 208 rfl rfl), (eb_tb1 1 rfl rfl), ⟨nhRX10.1, nhRX10.2, by decide +kernel⟩, by decide⟩, (eb_tb4 207 rfl rfl), (eb_tbp 26 rfl rfl), by decide, _, _, rfl⟩
abbrev mX10_saw : eb_M := (yX10_saw, cX10_saw, 4, some .int)
theorem mvX10_saw : eb_MV mX10_saw 3 10 := ⟨⟨(eb_tb4 212 rfl rfl), (eb_tb1 1 rfl rfl), ⟨nhRX10.1, nhRX10.2, by decide +kernel⟩, by decide⟩, (eb_tb4 210 rfl rfl), (eb_tb4 211 rfl rfl), by decide, _, _, rfl⟩
abbrev mX8_add : eb_M := (yX8_add, cX8_add, 4, some .boolean)
theorem mvX8_add : eb_MV mX8_add 3 8 := ⟨⟨(eb_tb4 216 rfl rfl), (eb_tb1 14 rfl rfl), ⟨nhRX8.1, nhRX8.2, by decide +kernel⟩, by decide⟩, (eb_tb4 214 rfl rfl), (eb_tb4 215 rfl rfl), by decide, _, _, rfl⟩
abbrev mX10_denies : eb_M := (yX10_denies, cX10_denies, 1, some .int)
theorem mvX10_denies : eb_MV mX10_denies 0 10 := ⟨⟨(eb_tb4 220 rfl rfl), (eb_tb1 1 rfl rfl), ⟨nhRX10.1, nhRX10.2, by decide +kernel⟩, by decide⟩, (eb_tb4 218 rfl rfl), (eb_tb4 219 rfl rfl), by decide, _, _, rfl⟩
abbrev mX8_empty : eb_M := (yX8_empty, cX8_empty, 2, some .int)
theorem mvX8_empty : eb_MV mX8_empty 0 8 := ⟨⟨(eb_tb4 224 rfl rfl), (eb_tb1 14 rfl rfl), ⟨nhRX8.1, nhRX8.2, by decide +kernel⟩, by decide⟩, (eb_tb4 222 rfl rfl), (eb_tb4 223 rfl rfl), by decide, _, _, rfl⟩
abbrev mX10_minds : eb_M := (yX10_minds, cX10_minds, 3, some .int)
theorem mvX10_minds : eb_MV mX10_minds 1 10 := ⟨⟨(eb_tb4 228 rfl rfl), (eb_tb1 1 rfl rfl), ⟨nhRX10.1, nhRX10.2, by decide +kernel⟩, by decide⟩, (eb_tb4 226 rfl rfl), (eb_tb4 227 rfl rfl), by decide, _, _, rfl⟩
abbrev mX10_thoughtsLeft : eb_M := (yX10_thoughtsLeft, cX10_thoughtsLeft, 4, some .int)
theorem mvX10_thoughtsLeft : eb_MV mX10_thoughtsLeft 1 10 := ⟨⟨(eb_tb4 232 rfl rfl), (eb_tb1 1 rfl rfl), ⟨nhRX10.1, nhRX10.2, by decide +kernel⟩, by decide⟩, (eb_tb4 231 rfl rfl), (eb_tbp 27 rfl rfl), by decide, _, _, rfl⟩
abbrev mX10_isAsSeen : eb_M := (yX10_isAsSeen, cX10_isAsSeen, 3, some .boolean)
theorem mvX10_isAsSeen : eb_MV mX10_isAsSeen 1 10 := ⟨⟨(eb_tb4 236 rfl rfl), (eb_tb1 1 rfl rfl), ⟨nhRX10.1, nhRX10.2, by decide +kernel⟩, by decide⟩, (eb_tb4 235 rfl rfl), (eb_tbp 28 rfl rfl), by decide, _, _, rfl⟩
abbrev mX10_looks : eb_M := (yX10_looks, cX10_looks, 8, some .int)
theorem mvX10_looks : eb_MV mX10_looks 1 10 := ⟨⟨(eb_tb5 0 rfl rfl), (eb_tb1 1 rfl rfl), ⟨nhRX10.1, nhRX10.2, by decide +kernel⟩, by decide⟩, (eb_tb4 238 rfl rfl), (eb_tb4 239 rfl rfl), by decide, _, _, rfl⟩
abbrev mX10_mostLeft : eb_M := (yX10_mostLeft, cX10_mostLeft, 8, some .int)
theorem mvX10_mostLeft : eb_MV mX10_mostLeft 3 10 := ⟨⟨(eb_tb5 4 rfl rfl), (eb_tb1 1 rfl rfl), ⟨nhRX10.1, nhRX10.2, by decide +kernel⟩, by decide⟩, (eb_tb5 3 rfl rfl), (eb_tbp 29 rfl rfl), by decide, _, _, rfl⟩
abbrev mX10_heard : eb_M := (yX10_heard, cX10_heard, 3, some .int)
theorem mvX10_heard : eb_MV mX10_heard 2 10 := ⟨⟨(eb_tb5 8 rfl rfl), (eb_tb1 1 rfl rfl), ⟨nhRX10.1, nhRX10.2, by decide +kernel⟩, by decide⟩, (eb_tb5 6 rfl rfl), (eb_tb5 7 rfl rfl), by decide, _, _, rfl⟩
abbrev mX10_forget : eb_M := (yX10_forget, cX10_forget, 1, some .int)
theorem mvX10_forget : eb_MV mX10_forget 0 10 := ⟨⟨(eb_tb5 14 rfl rfl), (eb_tb1 1 rfl rfl), ⟨nhRX10.1, nhRX10.2, by decide +kernel⟩, by decide⟩, (eb_tb5 12 rfl rfl), (eb_tb5 13 rfl rfl), by decide, _, _, rfl⟩
abbrev mX10_fits : eb_M := (yX10_fits, cX10_fits, 2, some .int)
theorem mvX10_fits : eb_MV mX10_fits 0 10 := ⟨⟨(eb_tb5 18 rfl rfl), (eb_tb1 1 rfl rfl), ⟨nhRX10.1, nhRX10.2, by decide +kernel⟩, by decide⟩, (eb_tb5 16 rfl rfl), (eb_tb5 17 rfl rfl), by decide, _, _, rfl⟩
abbrev mX10_suspects : eb_M := (yX10_suspects, cX10_suspects, 5, some .int)
theorem mvX10_suspects : eb_MV mX10_suspects 0 10 := ⟨⟨(eb_tb5 22 rfl rfl), (eb_tb1 1 rfl rfl), ⟨nhRX10.1, nhRX10.2, by decide +kernel⟩, by decide⟩, (eb_tb5 21 rfl rfl), (eb_tbp 30 rfl rfl), by decide, _, _, rfl⟩
abbrev mX10_isSo : eb_M := (yX10_isSo, cX10_isSo, 4, some .boolean)
theorem mvX10_isSo : eb_MV mX10_isSo 3 10 := ⟨⟨(eb_tb5 26 rfl rfl), (eb_tb1 1 rfl rfl), ⟨nhRX10.1, nhRX10.2, by decide +kernel⟩, by decide⟩, (eb_tb5 25 rfl rfl), (eb_tbp 31 rfl rfl), by decide, _, _, rfl⟩
abbrev mX10_asks : eb_M := (yX10_asks, cX10_asks, 7, some .int)
theorem mvX10_asks : eb_MV mX10_asks 0 10 := ⟨⟨(eb_tb5 30 rfl rfl), (eb_tb1 1 rfl rfl), ⟨nhRX10.1, nhRX10.2, by decide +kernel⟩, by decide⟩, (eb_tb5 28 rfl rfl), (eb_tb5 29 rfl rfl), by decide, _, _, rfl⟩
abbrev mX10_leftBehind : eb_M := (yX10_leftBehind, cX10_leftBehind, 6, some .int)
theorem mvX10_leftBehind : eb_MV mX10_leftBehind 3 10 := ⟨⟨(eb_tb5 34 rfl rfl), (eb_tb1 1 rfl rfl), ⟨nhRX10.1, nhRX10.2, by decide +kernel⟩, by decide⟩, (eb_tb5 33 rfl rfl), (eb_tbp 32 rfl rfl), by decide, _, _, rfl⟩
abbrev mX10_grave : eb_M := (yX10_grave, cX10_grave, 5, some .int)
theorem mvX10_grave : eb_MV mX10_grave 2 10 := ⟨⟨(eb_tb5 38 rfl rfl), (eb_tb1 1 rfl rfl), ⟨nhRX10.1, nhRX10.2, by decide +kernel⟩, by decide⟩, (eb_tb5 36 rfl rfl), (eb_tb5 37 rfl rfl), by decide, _, _, rfl⟩
abbrev mX0_start : eb_M := (yX0_start, cX0_start, 3, none)
theorem mvX0_start : eb_MV mX0_start 1 0 := ⟨⟨(eb_tb5 42 rfl rfl), (eb_tb1 16 rfl rfl), ⟨nhRX0.1, nhRX0.2, by decide +kernel⟩, by decide⟩, (eb_tb5 40 rfl rfl), (eb_tb5 41 rfl rfl), by decide, _, _, rfl⟩
abbrev mX0_letHourGo : eb_M := (yX0_letHourGo, cX0_letHourGo, 6, none)
theorem mvX0_letHourGo : eb_MV mX0_letHourGo 3 0 := ⟨⟨(eb_tb5 46 rfl rfl), (eb_tb1 16 rfl rfl), ⟨nhRX0.1, nhRX0.2, by decide +kernel⟩, by decide⟩, (eb_tb5 44 rfl rfl), (eb_tb5 45 rfl rfl), by decide, _, _, rfl⟩
abbrev mX0_go : eb_M := (yX0_go, cX0_go, 4, none)
theorem mvX0_go : eb_MV mX0_go 2 0 := ⟨⟨(eb_tb5 53 rfl rfl), (eb_tb1 16 rfl rfl), ⟨nhRX0.1, nhRX0.2, by decide +kernel⟩, by decide⟩, (eb_tb5 52 rfl rfl), (eb_tbp 33 rfl rfl), by decide, _, _, rfl⟩
abbrev mX10_greatestCommon : eb_M := (yX10_greatestCommon, cX10_greatestCommon, 6, some .int)
theorem msX10_greatestCommon : eb_MS mX10_greatestCommon 2 := ⟨⟨(eb_tb5 58 rfl rfl), (eb_tb1 1 rfl rfl), ⟨nhRX10.1, nhRX10.2, by decide +kernel⟩, by decide⟩, (eb_tb5 57 rfl rfl)⟩
abbrev mX10_cake : eb_M := (yX10_cake, cX10_cake, 3, some .int)
theorem mvX10_cake : eb_MV mX10_cake 2 10 := ⟨⟨(eb_tb5 62 rfl rfl), (eb_tb1 1 rfl rfl), ⟨nhRX10.1, nhRX10.2, by decide +kernel⟩, by decide⟩, (eb_tb5 60 rfl rfl), (eb_tb5 61 rfl rfl), by decide, _, _, rfl⟩
abbrev mX3_leastThatWins : eb_M := (yX3_leastThatWins, cX3_leastThatWins, 6, some .int)
theorem mvX3_leastThatWins : eb_MV mX3_leastThatWins 2 3 := ⟨⟨(eb_tb5 66 rfl rfl), (eb_tb1 17 rfl rfl), ⟨nhRX3.1, nhRX3.2, by decide +kernel⟩, by decide⟩, (eb_tb5 64 rfl rfl), (eb_tb5 65 rfl rfl), by decide, _, _, rfl⟩
abbrev mX3_leave : eb_M := (yX3_leave, cX3_leave, 4, none)
theorem mvX3_leave : eb_MV mX3_leave 3 3 := ⟨⟨(eb_tb5 70 rfl rfl), (eb_tb1 17 rfl rfl), ⟨nhRX3.1, nhRX3.2, by decide +kernel⟩, by decide⟩, (eb_tb5 69 rfl rfl), (eb_tbp 34 rfl rfl), by decide, _, _, rfl⟩
abbrev mX3_winningPiece : eb_M := (yX3_winningPiece, cX3_winningPiece, 4, some .int)
theorem mvX3_winningPiece : eb_MV mX3_winningPiece 0 3 := ⟨⟨(eb_tb5 74 rfl rfl), (eb_tb1 17 rfl rfl), ⟨nhRX3.1, nhRX3.2, by decide +kernel⟩, by decide⟩, (eb_tb5 73 rfl rfl), (eb_tbp 35 rfl rfl), by decide, _, _, rfl⟩
abbrev mX3_indexBehind : eb_M := (yX3_indexBehind, cX3_indexBehind, 5, some .int)
theorem mvX3_indexBehind : eb_MV mX3_indexBehind 2 3 := ⟨⟨(eb_tb5 78 rfl rfl), (eb_tb1 17 rfl rfl), ⟨nhRX3.1, nhRX3.2, by decide +kernel⟩, by decide⟩, (eb_tb5 77 rfl rfl), (eb_tbp 36 rfl rfl), by decide, _, _, rfl⟩
abbrev mX3_setWins : eb_M := (yX3_setWins, cX3_setWins, 3, none)
theorem mvX3_setWins : eb_MV mX3_setWins 1 3 := ⟨⟨(eb_tb5 84 rfl rfl), (eb_tb1 17 rfl rfl), ⟨nhRX3.1, nhRX3.2, by decide +kernel⟩, by decide⟩, (eb_tb5 83 rfl rfl), (eb_tbp 37 rfl rfl), by decide, _, _, rfl⟩
abbrev mX10_rests : eb_M := (yX10_rests, cX10_rests, 5, some .int)
theorem mvX10_rests : eb_MV mX10_rests 1 10 := ⟨⟨(eb_tb5 88 rfl rfl), (eb_tb1 1 rfl rfl), ⟨nhRX10.1, nhRX10.2, by decide +kernel⟩, by decide⟩, (eb_tb5 86 rfl rfl), (eb_tb5 87 rfl rfl), by decide, _, _, rfl⟩
abbrev mX10_isContent : eb_M := (yX10_isContent, cX10_isContent, 5, some .boolean)
theorem msX10_isContent : eb_MS mX10_isContent 3 := ⟨⟨(eb_tb5 91 rfl rfl), (eb_tb1 1 rfl rfl), ⟨nhRX10.1, nhRX10.2, by decide +kernel⟩, by decide⟩, (eb_tb5 90 rfl rfl)⟩
abbrev mX10_gainOf : eb_M := (yX10_gainOf, cX10_gainOf, 3, some .int)
theorem msX10_gainOf : eb_MS mX10_gainOf 3 := ⟨⟨(eb_tb5 94 rfl rfl), (eb_tb1 1 rfl rfl), ⟨nhRX10.1, nhRX10.2, by decide +kernel⟩, by decide⟩, (eb_tb5 93 rfl rfl)⟩
abbrev mX10_law : eb_M := (yX10_law, cX10_law, 5, some .int)
theorem mvX10_law : eb_MV mX10_law 0 10 := ⟨⟨(eb_tb5 98 rfl rfl), (eb_tb1 1 rfl rfl), ⟨nhRX10.1, nhRX10.2, by decide +kernel⟩, by decide⟩, (eb_tb5 96 rfl rfl), (eb_tb5 97 rfl rfl), by decide, _, _, rfl⟩
abbrev mX4_tell___ : eb_M := (yX4_tell___, cX4_tell___, 5, none)
theorem mvX4_tell___ : eb_MV mX4_tell___ 4 4 := ⟨⟨(eb_tb5 103 rfl rfl), (eb_tb1 3 rfl rfl), ⟨nhRX4.1, nhRX4.2, by decide +kernel⟩, by decide⟩, (eb_tb5 101 rfl rfl), (eb_tb5 102 rfl rfl), by decide, _, _, rfl⟩
abbrev mX10_years : eb_M := (yX10_years, cX10_years, 5, some .int)
theorem mvX10_years : eb_MV mX10_years 2 10 := ⟨⟨(eb_tb5 107 rfl rfl), (eb_tb1 1 rfl rfl), ⟨nhRX10.1, nhRX10.2, by decide +kernel⟩, by decide⟩, (eb_tb5 105 rfl rfl), (eb_tb5 106 rfl rfl), by decide, _, _, rfl⟩
abbrev mX1_start : eb_M := (yX1_start, cX1_start, 2, none)
theorem mvX1_start : eb_MV mX1_start 1 1 := ⟨⟨(eb_tb5 111 rfl rfl), (eb_tb1 15 rfl rfl), ⟨nhRX1.1, nhRX1.2, by decide +kernel⟩, by decide⟩, (eb_tb5 109 rfl rfl), (eb_tb5 110 rfl rfl), by decide, _, _, rfl⟩
abbrev mX10_drawnYear : eb_M := (yX10_drawnYear, cX10_drawnYear, 3, some .int)
theorem mvX10_drawnYear : eb_MV mX10_drawnYear 0 10 := ⟨⟨(eb_tb5 115 rfl rfl), (eb_tb1 1 rfl rfl), ⟨nhRX10.1, nhRX10.2, by decide +kernel⟩, by decide⟩, (eb_tb5 114 rfl rfl), (eb_tbp 38 rfl rfl), by decide, _, _, rfl⟩
abbrev mX1_draw : eb_M := (yX1_draw, cX1_draw, 2, some .int)
theorem mvX1_draw : eb_MV mX1_draw 1 1 := ⟨⟨(eb_tb5 119 rfl rfl), (eb_tb1 15 rfl rfl), ⟨nhRX1.1, nhRX1.2, by decide +kernel⟩, by decide⟩, (eb_tb5 117 rfl rfl), (eb_tb5 118 rfl rfl), by decide, _, _, rfl⟩
abbrev mX10_keep : eb_M := (yX10_keep, cX10_keep, 2, some .boolean)
theorem mvX10_keep : eb_MV mX10_keep 1 10 := ⟨⟨(eb_tb5 124 rfl rfl), (eb_tb1 1 rfl rfl), ⟨nhRX10.1, nhRX10.2, by decide +kernel⟩, by decide⟩, (eb_tb5 122 rfl rfl), (eb_tb5 123 rfl rfl), by decide, _, _, rfl⟩
abbrev mX10_again : eb_M := (yX10_again, cX10_again, 2, some .boolean)
theorem mvX10_again : eb_MV mX10_again 1 10 := ⟨⟨(eb_tb5 128 rfl rfl), (eb_tb1 1 rfl rfl), ⟨nhRX10.1, nhRX10.2, by decide +kernel⟩, by decide⟩, (eb_tb5 126 rfl rfl), (eb_tb5 127 rfl rfl), by decide, _, _, rfl⟩
abbrev mX10_count : eb_M := (yX10_count, cX10_count, 2, some .int)
theorem mvX10_count : eb_MV mX10_count 1 10 := ⟨⟨(eb_tb5 132 rfl rfl), (eb_tb1 1 rfl rfl), ⟨nhRX10.1, nhRX10.2, by decide +kernel⟩, by decide⟩, (eb_tb5 130 rfl rfl), (eb_tb5 131 rfl rfl), by decide, _, _, rfl⟩
abbrev mX10_brother : eb_M := (yX10_brother, cX10_brother, 3, some .int)
theorem mvX10_brother : eb_MV mX10_brother 2 10 := ⟨⟨(eb_tb5 140 rfl rfl), (eb_tb1 1 rfl rfl), ⟨nhRX10.1, nhRX10.2, by decide +kernel⟩, by decide⟩, (eb_tb5 138 rfl rfl), (eb_tb5 139 rfl rfl), by decide, _, _, rfl⟩
abbrev mX10_price : eb_M := (yX10_price, cX10_price, 2, some .int)
theorem mvX10_price : eb_MV mX10_price 1 10 := ⟨⟨(eb_tb5 208 rfl rfl), (eb_tb1 1 rfl rfl), ⟨nhRX10.1, nhRX10.2, by decide +kernel⟩, by decide⟩, (eb_tb5 206 rfl rfl), (eb_tb5 207 rfl rfl), by decide, _, _, rfl⟩
abbrev mX10_row : eb_M := (yX10_row, cX10_row, 2, some .long)
theorem mvX10_row : eb_MV mX10_row 1 10 := ⟨⟨(eb_tb5 216 rfl rfl), (eb_tb1 1 rfl rfl), ⟨nhRX10.1, nhRX10.2, by decide +kernel⟩, by decide⟩, (eb_tb5 214 rfl rfl), (eb_tb5 215 rfl rfl), by decide, _, _, rfl⟩
abbrev mX11_init : eb_M := (yX11_init, cX11_init, 1, none)
theorem miX11_init : eb_MI mX11_init 0 := ⟨⟨(eb_tb5 221 rfl rfl), (eb_tb1 18 rfl rfl), ⟨nhRX11.1, nhRX11.2, by decide +kernel⟩, by decide⟩, (eb_tb5 220 rfl rfl), rfl, rfl⟩
abbrev mX11_thrown : eb_M := (yX11_thrown, cX11_thrown, 1, some .int)
theorem mvX11_thrown : eb_MV mX11_thrown 0 11 := ⟨⟨(eb_tb6 113 rfl rfl), (eb_tb1 18 rfl rfl), ⟨nhRX11.1, nhRX11.2, by decide +kernel⟩, by decide⟩, (eb_tb6 111 rfl rfl), (eb_tb6 112 rfl rfl), by decide, _, _, rfl⟩
abbrev mX11_sign : eb_M := (yX11_sign, cX11_sign, 3, some .int)
theorem mvX11_sign : eb_MV mX11_sign 1 11 := ⟨⟨(eb_tb6 117 rfl rfl), (eb_tb1 18 rfl rfl), ⟨nhRX11.1, nhRX11.2, by decide +kernel⟩, by decide⟩, (eb_tb6 115 rfl rfl), (eb_tb6 116 rfl rfl), by decide, _, _, rfl⟩
abbrev mX11_end : eb_M := (yX11_end, cX11_end, 2, some .boolean)
theorem mvX11_end : eb_MV mX11_end 1 11 := ⟨⟨(eb_tb6 121 rfl rfl), (eb_tb1 18 rfl rfl), ⟨nhRX11.1, nhRX11.2, by decide +kernel⟩, by decide⟩, (eb_tb6 119 rfl rfl), (eb_tb6 120 rfl rfl), by decide, _, _, rfl⟩
abbrev mX11_in : eb_M := (yX11_in, cX11_in, 3, some .boolean)
theorem msX11_in : eb_MS mX11_in 3 := ⟨⟨(eb_tb6 124 rfl rfl), (eb_tb1 18 rfl rfl), ⟨nhRX11.1, nhRX11.2, by decide +kernel⟩, by decide⟩, (eb_tb6 123 rfl rfl)⟩
abbrev mX11_thoughts : eb_M := (yX11_thoughts, cX11_thoughts, 3, some .int)
theorem mvX11_thoughts : eb_MV mX11_thoughts 0 11 := ⟨⟨(eb_tb6 128 rfl rfl), (eb_tb1 18 rfl rfl), ⟨nhRX11.1, nhRX11.2, by decide +kernel⟩, by decide⟩, (eb_tb6 126 rfl rfl), (eb_tb6 127 rfl rfl), by decide, _, _, rfl⟩
abbrev mX11_beginText : eb_M := (yX11_beginText, cX11_beginText, 2, none)
theorem mvX11_beginText : eb_MV mX11_beginText 1 11 := ⟨⟨(eb_tb6 132 rfl rfl), (eb_tb1 18 rfl rfl), ⟨nhRX11.1, nhRX11.2, by decide +kernel⟩, by decide⟩, (eb_tb6 131 rfl rfl), (eb_tbp 40 rfl rfl), by decide, _, _, rfl⟩
abbrev mX11_begin : eb_M := (yX11_begin, cX11_begin, 4, none)
theorem mvX11_begin : eb_MV mX11_begin 3 11 := ⟨⟨(eb_tb6 136 rfl rfl), (eb_tb1 18 rfl rfl), ⟨nhRX11.1, nhRX11.2, by decide +kernel⟩, by decide⟩, (eb_tb6 135 rfl rfl), (eb_tbp 41 rfl rfl), by decide, _, _, rfl⟩
abbrev mX11_fine : eb_M := (yX11_fine, cX11_fine, 1, some .boolean)
theorem mvX11_fine : eb_MV mX11_fine 0 11 := ⟨⟨(eb_tb6 140 rfl rfl), (eb_tb1 18 rfl rfl), ⟨nhRX11.1, nhRX11.2, by decide +kernel⟩, by decide⟩, (eb_tb6 139 rfl rfl), (eb_tbp 42 rfl rfl), by decide, _, _, rfl⟩
abbrev mX11_oneOf : eb_M := (yX11_oneOf, cX11_oneOf, 3, some .int)
theorem mvX11_oneOf : eb_MV mX11_oneOf 2 11 := ⟨⟨(eb_tb6 144 rfl rfl), (eb_tb1 18 rfl rfl), ⟨nhRX11.1, nhRX11.2, by decide +kernel⟩, by decide⟩, (eb_tb6 143 rfl rfl), (eb_tbp 43 rfl rfl), by decide, _, _, rfl⟩
abbrev mX11_here : eb_M := (yX11_here, cX11_here, 1, some .int)
theorem mvX11_here : eb_MV mX11_here 0 11 := ⟨⟨(eb_tb6 148 rfl rfl), (eb_tb1 18 rfl rfl), ⟨nhRX11.1, nhRX11.2, by decide +kernel⟩, by decide⟩, (eb_tb6 147 rfl rfl), (eb_tbp 44 rfl rfl), by decide, _, _, rfl⟩
abbrev mX11_fault : eb_M := (yX11_fault, cX11_fault, 2, none)
theorem mvX11_fault : eb_MV mX11_fault 1 11 := ⟨⟨(eb_tb6 152 rfl rfl), (eb_tb1 18 rfl rfl), ⟨nhRX11.1, nhRX11.2, by decide +kernel⟩, by decide⟩, (eb_tb6 151 rfl rfl), (eb_tbp 45 rfl rfl), by decide, _, _, rfl⟩
abbrev mX11_wasRight : eb_M := (yX11_wasRight, cX11_wasRight, 1, some .boolean)
theorem mvX11_wasRight : eb_MV mX11_wasRight 0 11 := ⟨⟨(eb_tb6 156 rfl rfl), (eb_tb1 18 rfl rfl), ⟨nhRX11.1, nhRX11.2, by decide +kernel⟩, by decide⟩, (eb_tb6 155 rfl rfl), (eb_tbp 46 rfl rfl), by decide, _, _, rfl⟩
abbrev mX11_brothers : eb_M := (yX11_brothers, cX11_brothers, 4, some .int)
theorem mvX11_brothers : eb_MV mX11_brothers 0 11 := ⟨⟨(eb_tb6 160 rfl rfl), (eb_tb1 18 rfl rfl), ⟨nhRX11.1, nhRX11.2, by decide +kernel⟩, by decide⟩, (eb_tb6 158 rfl rfl), (eb_tb6 159 rfl rfl), by decide, _, _, rfl⟩
abbrev mX11_signedOf : eb_M := (yX11_signedOf, cX11_signedOf, 4, some .int)
theorem mvX11_signedOf : eb_MV mX11_signedOf 1 11 := ⟨⟨(eb_tb6 164 rfl rfl), (eb_tb1 18 rfl rfl), ⟨nhRX11.1, nhRX11.2, by decide +kernel⟩, by decide⟩, (eb_tb6 163 rfl rfl), (eb_tbp 47 rfl rfl), by decide, _, _, rfl⟩
abbrev mX11_passes : eb_M := (yX11_passes, cX11_passes, 2, some .boolean)
theorem mvX11_passes : eb_MV mX11_passes 1 11 := ⟨⟨(eb_tb6 168 rfl rfl), (eb_tb1 18 rfl rfl), ⟨nhRX11.1, nhRX11.2, by decide +kernel⟩, by decide⟩, (eb_tb6 167 rfl rfl), (eb_tbp 48 rfl rfl), by decide, _, _, rfl⟩
abbrev mX11_winds : eb_M := (yX11_winds, cX11_winds, 3, some .int)
theorem mvX11_winds : eb_MV mX11_winds 0 11 := ⟨⟨(eb_tb6 172 rfl rfl), (eb_tb1 18 rfl rfl), ⟨nhRX11.1, nhRX11.2, by decide +kernel⟩, by decide⟩, (eb_tb6 170 rfl rfl), (eb_tb6 171 rfl rfl), by decide, _, _, rfl⟩
abbrev mX11_rule : eb_M := (yX11_rule, cX11_rule, 3, some .int)
theorem mvX11_rule : eb_MV mX11_rule 0 11 := ⟨⟨(eb_tb6 176 rfl rfl), (eb_tb1 18 rfl rfl), ⟨nhRX11.1, nhRX11.2, by decide +kernel⟩, by decide⟩, (eb_tb6 174 rfl rfl), (eb_tb6 175 rfl rfl), by decide, _, _, rfl⟩
abbrev mX11_readRule : eb_M := (yX11_readRule, cX11_readRule, 1, some .boolean)
theorem mvX11_readRule : eb_MV mX11_readRule 0 11 := ⟨⟨(eb_tb6 180 rfl rfl), (eb_tb1 18 rfl rfl), ⟨nhRX11.1, nhRX11.2, by decide +kernel⟩, by decide⟩, (eb_tb6 179 rfl rfl), (eb_tbp 49 rfl rfl), by decide, _, _, rfl⟩
abbrev mX11_held : eb_M := (yX11_held, cX11_held, 3, some .int)
theorem mvX11_held : eb_MV mX11_held 1 11 := ⟨⟨(eb_tb6 184 rfl rfl), (eb_tb1 18 rfl rfl), ⟨nhRX11.1, nhRX11.2, by decide +kernel⟩, by decide⟩, (eb_tb6 183 rfl rfl), (eb_tbp 50 rfl rfl), by decide, _, _, rfl⟩
abbrev mX11_sum : eb_M := (yX11_sum, cX11_sum, 5, some .int)
theorem mvX11_sum : eb_MV mX11_sum 1 11 := ⟨⟨(eb_tb6 188 rfl rfl), (eb_tb1 18 rfl rfl), ⟨nhRX11.1, nhRX11.2, by decide +kernel⟩, by decide⟩, (eb_tb6 187 rfl rfl), (eb_tbp 51 rfl rfl), by decide, _, _, rfl⟩
abbrev mX11_product : eb_M := (yX11_product, cX11_product, 5, some .int)
theorem mvX11_product : eb_MV mX11_product 1 11 := ⟨⟨(eb_tb6 192 rfl rfl), (eb_tb1 18 rfl rfl), ⟨nhRX11.1, nhRX11.2, by decide +kernel⟩, by decide⟩, (eb_tb6 191 rfl rfl), (eb_tbp 52 rfl rfl), by decide, _, _, rfl⟩
abbrev mX11_thing : eb_M := (yX11_thing, cX11_thing, 4, some .int)
theorem mvX11_thing : eb_MV mX11_thing 1 11 := ⟨⟨(eb_tb6 196 rfl rfl), (eb_tb1 18 rfl rfl), ⟨nhRX11.1, nhRX11.2, by decide +kernel⟩, by decide⟩, (eb_tb6 195 rfl rfl), (eb_tbp 53 rfl rfl), by decide, _, _, rfl⟩
abbrev mX11_need : eb_M := (yX11_need, cX11_need, 2, none)
theorem mvX11_need : eb_MV mX11_need 1 11 := ⟨⟨(eb_tb6 200 rfl rfl), (eb_tb1 18 rfl rfl), ⟨nhRX11.1, nhRX11.2, by decide +kernel⟩, by decide⟩, (eb_tb6 199 rfl rfl), (eb_tbp 54 rfl rfl), by decide, _, _, rfl⟩
abbrev mX11_number : eb_M := (yX11_number, cX11_number, 4, some .int)
theorem mvX11_number : eb_MV mX11_number 1 11 := ⟨⟨(eb_tb6 204 rfl rfl), (eb_tb1 18 rfl rfl), ⟨nhRX11.1, nhRX11.2, by decide +kernel⟩, by decide⟩, (eb_tb6 203 rfl rfl), (eb_tbp 55 rfl rfl), by decide, _, _, rfl⟩
abbrev mX11_letterOf : eb_M := (yX11_letterOf, cX11_letterOf, 1, some .int)
theorem msX11_letterOf : eb_MS mX11_letterOf 1 := ⟨⟨(eb_tb6 207 rfl rfl), (eb_tb1 18 rfl rfl), ⟨nhRX11.1, nhRX11.2, by decide +kernel⟩, by decide⟩, (eb_tb6 206 rfl rfl)⟩
abbrev mX11_brother : eb_M := (yX11_brother, cX11_brother, 3, some .int)
theorem mvX11_brother : eb_MV mX11_brother 2 11 := ⟨⟨(eb_tb6 211 rfl rfl), (eb_tb1 18 rfl rfl), ⟨nhRX11.1, nhRX11.2, by decide +kernel⟩, by decide⟩, (eb_tb6 209 rfl rfl), (eb_tb6 210 rfl rfl), by decide, _, _, rfl⟩
abbrev mX11_isOne : eb_M := (yX11_isOne, cX11_isOne, 2, some .boolean)
theorem mvX11_isOne : eb_MV mX11_isOne 1 11 := ⟨⟨(eb_tb6 215 rfl rfl), (eb_tb1 18 rfl rfl), ⟨nhRX11.1, nhRX11.2, by decide +kernel⟩, by decide⟩, (eb_tb6 214 rfl rfl), (eb_tbp 56 rfl rfl), by decide, _, _, rfl⟩
abbrev mX11_lost : eb_M := (yX11_lost, cX11_lost, 1, some .int)
theorem mvX11_lost : eb_MV mX11_lost 0 11 := ⟨⟨(eb_tb6 219 rfl rfl), (eb_tb1 18 rfl rfl), ⟨nhRX11.1, nhRX11.2, by decide +kernel⟩, by decide⟩, (eb_tb6 218 rfl rfl), (eb_tbp 57 rfl rfl), by decide, _, _, rfl⟩
abbrev mX11_weightOf : eb_M := (yX11_weightOf, cX11_weightOf, 6, some .int)
theorem mvX11_weightOf : eb_MV mX11_weightOf 2 11 := ⟨⟨(eb_tb6 223 rfl rfl), (eb_tb1 18 rfl rfl), ⟨nhRX11.1, nhRX11.2, by decide +kernel⟩, by decide⟩, (eb_tb6 222 rfl rfl), (eb_tbp 58 rfl rfl), by decide, _, _, rfl⟩
abbrev mX11_price : eb_M := (yX11_price, cX11_price, 2, some .int)
theorem mvX11_price : eb_MV mX11_price 1 11 := ⟨⟨(eb_tb6 230 rfl rfl), (eb_tb1 18 rfl rfl), ⟨nhRX11.1, nhRX11.2, by decide +kernel⟩, by decide⟩, (eb_tb6 228 rfl rfl), (eb_tb6 229 rfl rfl), by decide, _, _, rfl⟩
abbrev mX11_sheet : eb_M := (yX11_sheet, cX11_sheet, 8, some .int)
theorem mvX11_sheet : eb_MV mX11_sheet 4 11 := ⟨⟨(eb_tb6 234 rfl rfl), (eb_tb1 18 rfl rfl), ⟨nhRX11.1, nhRX11.2, by decide +kernel⟩, by decide⟩, (eb_tb6 232 rfl rfl), (eb_tb6 233 rfl rfl), by decide, _, _, rfl⟩
abbrev mX11_gravity : eb_M := (yX11_gravity, cX11_gravity, 3, some .int)
theorem mvX11_gravity : eb_MV mX11_gravity 0 11 := ⟨⟨(eb_tb6 238 rfl rfl), (eb_tb1 18 rfl rfl), ⟨nhRX11.1, nhRX11.2, by decide +kernel⟩, by decide⟩, (eb_tb6 237 rfl rfl), (eb_tbp 59 rfl rfl), by decide, _, _, rfl⟩
abbrev mX11_hours : eb_M := (yX11_hours, cX11_hours, 3, some .int)
theorem mvX11_hours : eb_MV mX11_hours 1 11 := ⟨⟨(eb_tb7 2 rfl rfl), (eb_tb1 18 rfl rfl), ⟨nhRX11.1, nhRX11.2, by decide +kernel⟩, by decide⟩, (eb_tb7 0 rfl rfl), (eb_tb7 1 rfl rfl), by decide, _, _, rfl⟩
abbrev mX11_remember : eb_M := (yX11_remember, cX11_remember, 3, none)
theorem mvX11_remember : eb_MV mX11_remember 1 11 := ⟨⟨(eb_tb7 6 rfl rfl), (eb_tb1 18 rfl rfl), ⟨nhRX11.1, nhRX11.2, by decide +kernel⟩, by decide⟩, (eb_tb7 5 rfl rfl), (eb_tbp 60 rfl rfl), by decide, _, _, rfl⟩
abbrev mX11_lay : eb_M := (yX11_lay, cX11_lay, 4, none)
theorem msX11_lay : eb_MS mX11_lay 3 := ⟨⟨(eb_tb7 9 rfl rfl), (eb_tb1 18 rfl rfl), ⟨nhRX11.1, nhRX11.2, by decide +kernel⟩, by decide⟩, (eb_tb7 8 rfl rfl)⟩
abbrev mX11_goHours : eb_M := (yX11_goHours, cX11_goHours, 4, none)
theorem mvX11_goHours : eb_MV mX11_goHours 2 11 := ⟨⟨(eb_tb7 13 rfl rfl), (eb_tb1 18 rfl rfl), ⟨nhRX11.1, nhRX11.2, by decide +kernel⟩, by decide⟩, (eb_tb7 12 rfl rfl), (eb_tbp 61 rfl rfl), by decide, _, _, rfl⟩
abbrev mX11_goHour : eb_M := (yX11_goHour, cX11_goHour, 2, none)
theorem mvX11_goHour : eb_MV mX11_goHour 1 11 := ⟨⟨(eb_tb7 17 rfl rfl), (eb_tb1 18 rfl rfl), ⟨nhRX11.1, nhRX11.2, by decide +kernel⟩, by decide⟩, (eb_tb7 16 rfl rfl), (eb_tbp 62 rfl rfl), by decide, _, _, rfl⟩
abbrev mX11_windOf : eb_M := (yX11_windOf, cX11_windOf, 2, some .int)
theorem mvX11_windOf : eb_MV mX11_windOf 1 11 := ⟨⟨(eb_tb7 21 rfl rfl), (eb_tb1 18 rfl rfl), ⟨nhRX11.1, nhRX11.2, by decide +kernel⟩, by decide⟩, (eb_tb7 20 rfl rfl), (eb_tbp 63 rfl rfl), by decide, _, _, rfl⟩
abbrev mX11_goHourBy : eb_M := (yX11_goHourBy, cX11_goHourBy, 6, none)
theorem mvX11_goHourBy : eb_MV mX11_goHourBy 2 11 := ⟨⟨(eb_tb7 25 rfl rfl), (eb_tb1 18 rfl rfl), ⟨nhRX11.1, nhRX11.2, by decide +kernel⟩, by decide⟩, (eb_tb7 24 rfl rfl), (eb_tbp 64 rfl rfl), by decide, _, _, rfl⟩
abbrev mX11_momentOf : eb_M := (yX11_momentOf, cX11_momentOf, 3, some .int)
theorem mvX11_momentOf : eb_MV mX11_momentOf 2 11 := ⟨⟨(eb_tb7 29 rfl rfl), (eb_tb1 18 rfl rfl), ⟨nhRX11.1, nhRX11.2, by decide +kernel⟩, by decide⟩, (eb_tb7 28 rfl rfl), (eb_tbp 65 rfl rfl), by decide, _, _, rfl⟩
abbrev mX11_sidesOf : eb_M := (yX11_sidesOf, cX11_sidesOf, 5, some .int)
theorem mvX11_sidesOf : eb_MV mX11_sidesOf 2 11 := ⟨⟨(eb_tb7 33 rfl rfl), (eb_tb1 18 rfl rfl), ⟨nhRX11.1, nhRX11.2, by decide +kernel⟩, by decide⟩, (eb_tb7 32 rfl rfl), (eb_tbp 66 rfl rfl), by decide, _, _, rfl⟩
abbrev mX11_pullBy : eb_M := (yX11_pullBy, cX11_pullBy, 1, some .int)
theorem msX11_pullBy : eb_MS mX11_pullBy 1 := ⟨⟨(eb_tb7 36 rfl rfl), (eb_tb1 18 rfl rfl), ⟨nhRX11.1, nhRX11.2, by decide +kernel⟩, by decide⟩, (eb_tb7 35 rfl rfl)⟩
abbrev mX11_tell : eb_M := (yX11_tell, cX11_tell, 3, none)
theorem mvX11_tell : eb_MV mX11_tell 1 11 := ⟨⟨(eb_tb7 40 rfl rfl), (eb_tb1 18 rfl rfl), ⟨nhRX11.1, nhRX11.2, by decide +kernel⟩, by decide⟩, (eb_tb7 39 rfl rfl), (eb_tbp 67 rfl rfl), by decide, _, _, rfl⟩
abbrev mX11_tells : eb_M := (yX11_tells, cX11_tells, 5, some .int)
theorem mvX11_tells : eb_MV mX11_tells 2 11 := ⟨⟨(eb_tb7 44 rfl rfl), (eb_tb1 18 rfl rfl), ⟨nhRX11.1, nhRX11.2, by decide +kernel⟩, by decide⟩, (eb_tb7 42 rfl rfl), (eb_tb7 43 rfl rfl), by decide, _, _, rfl⟩
abbrev mX11_refusesTelling : eb_M := (yX11_refusesTelling, cX11_refusesTelling, 3, some .int)
theorem mvX11_refusesTelling : eb_MV mX11_refusesTelling 2 11 := ⟨⟨(eb_tb7 48 rfl rfl), (eb_tb1 18 rfl rfl), ⟨nhRX11.1, nhRX11.2, by decide +kernel⟩, by decide⟩, (eb_tb7 47 rfl rfl), (eb_tbp 68 rfl rfl), by decide, _, _, rfl⟩
abbrev mX11_moves : eb_M := (yX11_moves, cX11_moves, 5, some .int)
theorem mvX11_moves : eb_MV mX11_moves 2 11 := ⟨⟨(eb_tb7 52 rfl rfl), (eb_tb1 18 rfl rfl), ⟨nhRX11.1, nhRX11.2, by decide +kernel⟩, by decide⟩, (eb_tb7 50 rfl rfl), (eb_tb7 51 rfl rfl), by decide, _, _, rfl⟩
abbrev mX11_refusesMove : eb_M := (yX11_refusesMove, cX11_refusesMove, 3, some .int)
theorem mvX11_refusesMove : eb_MV mX11_refusesMove 2 11 := ⟨⟨(eb_tb7 56 rfl rfl), (eb_tb1 18 rfl rfl), ⟨nhRX11.1, nhRX11.2, by decide +kernel⟩, by decide⟩, (eb_tb7 55 rfl rfl), (eb_tbp 69 rfl rfl), by decide, _, _, rfl⟩
abbrev mX11_eases : eb_M := (yX11_eases, cX11_eases, 3, some .int)
theorem mvX11_eases : eb_MV mX11_eases 1 11 := ⟨⟨(eb_tb7 60 rfl rfl), (eb_tb1 18 rfl rfl), ⟨nhRX11.1, nhRX11.2, by decide +kernel⟩, by decide⟩, (eb_tb7 58 rfl rfl), (eb_tb7 59 rfl rfl), by decide, _, _, rfl⟩
abbrev mX11_refusesEase : eb_M := (yX11_refusesEase, cX11_refusesEase, 2, some .int)
theorem mvX11_refusesEase : eb_MV mX11_refusesEase 1 11 := ⟨⟨(eb_tb7 64 rfl rfl), (eb_tb1 18 rfl rfl), ⟨nhRX11.1, nhRX11.2, by decide +kernel⟩, by decide⟩, (eb_tb7 63 rfl rfl), (eb_tbp 70 rfl rfl), by decide, _, _, rfl⟩
abbrev mX11_preaches : eb_M := (yX11_preaches, cX11_preaches, 4, some .int)
theorem mvX11_preaches : eb_MV mX11_preaches 2 11 := ⟨⟨(eb_tb7 68 rfl rfl), (eb_tb1 18 rfl rfl), ⟨nhRX11.1, nhRX11.2, by decide +kernel⟩, by decide⟩, (eb_tb7 66 rfl rfl), (eb_tb7 67 rfl rfl), by decide, _, _, rfl⟩
abbrev mX11_refusesPreaching : eb_M := (yX11_refusesPreaching, cX11_refusesPreaching, 3, some .int)
theorem mvX11_refusesPreaching : eb_MV mX11_refusesPreaching 2 11 := ⟨⟨(eb_tb7 72 rfl rfl), (eb_tb1 18 rfl rfl), ⟨nhRX11.1, nhRX11.2, by decide +kernel⟩, by decide⟩, (eb_tb7 71 rfl rfl), (eb_tbp 71 rfl rfl), by decide, _, _, rfl⟩
abbrev mX11_sails : eb_M := (yX11_sails, cX11_sails, 4, some .int)
theorem mvX11_sails : eb_MV mX11_sails 1 11 := ⟨⟨(eb_tb7 76 rfl rfl), (eb_tb1 18 rfl rfl), ⟨nhRX11.1, nhRX11.2, by decide +kernel⟩, by decide⟩, (eb_tb7 74 rfl rfl), (eb_tb7 75 rfl rfl), by decide, _, _, rfl⟩
abbrev mX11_refusesSail : eb_M := (yX11_refusesSail, cX11_refusesSail, 2, some .int)
theorem mvX11_refusesSail : eb_MV mX11_refusesSail 1 11 := ⟨⟨(eb_tb7 80 rfl rfl), (eb_tb1 18 rfl rfl), ⟨nhRX11.1, nhRX11.2, by decide +kernel⟩, by decide⟩, (eb_tb7 79 rfl rfl), (eb_tbp 72 rfl rfl), by decide, _, _, rfl⟩
abbrev mX11_watch : eb_M := (yX11_watch, cX11_watch, 3, some .int)
theorem mvX11_watch : eb_MV mX11_watch 0 11 := ⟨⟨(eb_tb7 84 rfl rfl), (eb_tb1 18 rfl rfl), ⟨nhRX11.1, nhRX11.2, by decide +kernel⟩, by decide⟩, (eb_tb7 82 rfl rfl), (eb_tb7 83 rfl rfl), by decide, _, _, rfl⟩
abbrev mX11_readAct : eb_M := (yX11_readAct, cX11_readAct, 3, none)
theorem mvX11_readAct : eb_MV mX11_readAct 1 11 := ⟨⟨(eb_tb7 88 rfl rfl), (eb_tb1 18 rfl rfl), ⟨nhRX11.1, nhRX11.2, by decide +kernel⟩, by decide⟩, (eb_tb7 87 rfl rfl), (eb_tbp 73 rfl rfl), by decide, _, _, rfl⟩
abbrev mX11_act : eb_M := (yX11_act, cX11_act, 4, some .boolean)
theorem mvX11_act : eb_MV mX11_act 3 11 := ⟨⟨(eb_tb7 92 rfl rfl), (eb_tb1 18 rfl rfl), ⟨nhRX11.1, nhRX11.2, by decide +kernel⟩, by decide⟩, (eb_tb7 91 rfl rfl), (eb_tbp 74 rfl rfl), by decide, _, _, rfl⟩
abbrev mX11_undo : eb_M := (yX11_undo, cX11_undo, 2, some .int)
theorem mvX11_undo : eb_MV mX11_undo 0 11 := ⟨⟨(eb_tb7 96 rfl rfl), (eb_tb1 18 rfl rfl), ⟨nhRX11.1, nhRX11.2, by decide +kernel⟩, by decide⟩, (eb_tb7 94 rfl rfl), (eb_tb7 95 rfl rfl), by decide, _, _, rfl⟩
abbrev mX11_moment : eb_M := (yX11_moment, cX11_moment, 5, some .int)
theorem mvX11_moment : eb_MV mX11_moment 0 11 := ⟨⟨(eb_tb7 100 rfl rfl), (eb_tb1 18 rfl rfl), ⟨nhRX11.1, nhRX11.2, by decide +kernel⟩, by decide⟩, (eb_tb7 98 rfl rfl), (eb_tb7 99 rfl rfl), by decide, _, _, rfl⟩
abbrev mX11_pullOf : eb_M := (yX11_pullOf, cX11_pullOf, 2, some .int)
theorem mvX11_pullOf : eb_MV mX11_pullOf 1 11 := ⟨⟨(eb_tb7 104 rfl rfl), (eb_tb1 18 rfl rfl), ⟨nhRX11.1, nhRX11.2, by decide +kernel⟩, by decide⟩, (eb_tb7 103 rfl rfl), (eb_tbp 75 rfl rfl), by decide, _, _, rfl⟩
abbrev mX11_later : eb_M := (yX11_later, cX11_later, 2, some .int)
theorem mvX11_later : eb_MV mX11_later 1 11 := ⟨⟨(eb_tb7 108 rfl rfl), (eb_tb1 18 rfl rfl), ⟨nhRX11.1, nhRX11.2, by decide +kernel⟩, by decide⟩, (eb_tb7 106 rfl rfl), (eb_tb7 107 rfl rfl), by decide, _, _, rfl⟩
abbrev mX11_goThen : eb_M := (yX11_goThen, cX11_goThen, 2, none)
theorem mvX11_goThen : eb_MV mX11_goThen 1 11 := ⟨⟨(eb_tb7 112 rfl rfl), (eb_tb1 18 rfl rfl), ⟨nhRX11.1, nhRX11.2, by decide +kernel⟩, by decide⟩, (eb_tb7 111 rfl rfl), (eb_tbp 76 rfl rfl), by decide, _, _, rfl⟩
abbrev mX11_over : eb_M := (yX11_over, cX11_over, 2, some .int)
theorem mvX11_over : eb_MV mX11_over 0 11 := ⟨⟨(eb_tb7 116 rfl rfl), (eb_tb1 18 rfl rfl), ⟨nhRX11.1, nhRX11.2, by decide +kernel⟩, by decide⟩, (eb_tb7 114 rfl rfl), (eb_tb7 115 rfl rfl), by decide, _, _, rfl⟩
abbrev mX11_when : eb_M := (yX11_when, cX11_when, 5, some .int)
theorem mvX11_when : eb_MV mX11_when 1 11 := ⟨⟨(eb_tb7 120 rfl rfl), (eb_tb1 18 rfl rfl), ⟨nhRX11.1, nhRX11.2, by decide +kernel⟩, by decide⟩, (eb_tb7 118 rfl rfl), (eb_tb7 119 rfl rfl), by decide, _, _, rfl⟩
abbrev mX11_rolls : eb_M := (yX11_rolls, cX11_rolls, 7, some .int)
theorem mvX11_rolls : eb_MV mX11_rolls 1 11 := ⟨⟨(eb_tb7 124 rfl rfl), (eb_tb1 18 rfl rfl), ⟨nhRX11.1, nhRX11.2, by decide +kernel⟩, by decide⟩, (eb_tb7 122 rfl rfl), (eb_tb7 123 rfl rfl), by decide, _, _, rfl⟩
abbrev mX11_steady : eb_M := (yX11_steady, cX11_steady, 7, some .int)
theorem mvX11_steady : eb_MV mX11_steady 2 11 := ⟨⟨(eb_tb7 130 rfl rfl), (eb_tb1 18 rfl rfl), ⟨nhRX11.1, nhRX11.2, by decide +kernel⟩, by decide⟩, (eb_tb7 128 rfl rfl), (eb_tb7 129 rfl rfl), by decide, _, _, rfl⟩
abbrev mX11_makes : eb_M := (yX11_makes, cX11_makes, 3, some .int)
theorem mvX11_makes : eb_MV mX11_makes 1 11 := ⟨⟨(eb_tb7 134 rfl rfl), (eb_tb1 18 rfl rfl), ⟨nhRX11.1, nhRX11.2, by decide +kernel⟩, by decide⟩, (eb_tb7 132 rfl rfl), (eb_tb7 133 rfl rfl), by decide, _, _, rfl⟩
abbrev mX11_steps : eb_M := (yX11_steps, cX11_steps, 5, some .int)
theorem mvX11_steps : eb_MV mX11_steps 1 11 := ⟨⟨(eb_tb7 138 rfl rfl), (eb_tb1 18 rfl rfl), ⟨nhRX11.1, nhRX11.2, by decide +kernel⟩, by decide⟩, (eb_tb7 136 rfl rfl), (eb_tb7 137 rfl rfl), by decide, _, _, rfl⟩
abbrev mX11_stands : eb_M := (yX11_stands, cX11_stands, 2, some .boolean)
theorem mvX11_stands : eb_MV mX11_stands 1 11 := ⟨⟨(eb_tb7 142 rfl rfl), (eb_tb1 18 rfl rfl), ⟨nhRX11.1, nhRX11.2, by decide +kernel⟩, by decide⟩, (eb_tb7 141 rfl rfl), (eb_tbp 77 rfl rfl), by decide, _, _, rfl⟩
abbrev mX11_isTelling : eb_M := (yX11_isTelling, cX11_isTelling, 2, some .boolean)
theorem mvX11_isTelling : eb_MV mX11_isTelling 1 11 := ⟨⟨(eb_tb7 146 rfl rfl), (eb_tb1 18 rfl rfl), ⟨nhRX11.1, nhRX11.2, by decide +kernel⟩, by decide⟩, (eb_tb7 145 rfl rfl), (eb_tbp 78 rfl rfl), by decide, _, _, rfl⟩
abbrev mX11_think : eb_M := (yX11_think, cX11_think, 2, none)
theorem mvX11_think : eb_MV mX11_think 1 11 := ⟨⟨(eb_tb7 150 rfl rfl), (eb_tb1 18 rfl rfl), ⟨nhRX11.1, nhRX11.2, by decide +kernel⟩, by decide⟩, (eb_tb7 149 rfl rfl), (eb_tbp 79 rfl rfl), by decide, _, _, rfl⟩
abbrev mX11_unthink : eb_M := (yX11_unthink, cX11_unthink, 2, none)
theorem mvX11_unthink : eb_MV mX11_unthink 1 11 := ⟨⟨(eb_tb7 154 rfl rfl), (eb_tb1 18 rfl rfl), ⟨nhRX11.1, nhRX11.2, by decide +kernel⟩, by decide⟩, (eb_tb7 153 rfl rfl), (eb_tbp 80 rfl rfl), by decide, _, _, rfl⟩
abbrev mX11_best : eb_M := (yX11_best, cX11_best, 5, some .int)
theorem mvX11_best : eb_MV mX11_best 1 11 := ⟨⟨(eb_tb7 158 rfl rfl), (eb_tb1 18 rfl rfl), ⟨nhRX11.1, nhRX11.2, by decide +kernel⟩, by decide⟩, (eb_tb7 156 rfl rfl), (eb_tb7 157 rfl rfl), by decide, _, _, rfl⟩
abbrev mX11_leaguesBy : eb_M := (yX11_leaguesBy, cX11_leaguesBy, 3, some .int)
theorem mvX11_leaguesBy : eb_MV mX11_leaguesBy 2 11 := ⟨⟨(eb_tb7 162 rfl rfl), (eb_tb1 18 rfl rfl), ⟨nhRX11.1, nhRX11.2, by decide +kernel⟩, by decide⟩, (eb_tb7 161 rfl rfl), (eb_tbp 81 rfl rfl), by decide, _, _, rfl⟩
abbrev mX11_trims : eb_M := (yX11_trims, cX11_trims, 4, some .int)
theorem mvX11_trims : eb_MV mX11_trims 1 11 := ⟨⟨(eb_tb7 166 rfl rfl), (eb_tb1 18 rfl rfl), ⟨nhRX11.1, nhRX11.2, by decide +kernel⟩, by decide⟩, (eb_tb7 164 rfl rfl), (eb_tb7 165 rfl rfl), by decide, _, _, rfl⟩
abbrev mX11_pullAt : eb_M := (yX11_pullAt, cX11_pullAt, 3, some .int)
theorem mvX11_pullAt : eb_MV mX11_pullAt 2 11 := ⟨⟨(eb_tb7 170 rfl rfl), (eb_tb1 18 rfl rfl), ⟨nhRX11.1, nhRX11.2, by decide +kernel⟩, by decide⟩, (eb_tb7 169 rfl rfl), (eb_tbp 82 rfl rfl), by decide, _, _, rfl⟩
abbrev mX11_frees : eb_M := (yX11_frees, cX11_frees, 3, some .int)
theorem mvX11_frees : eb_MV mX11_frees 0 11 := ⟨⟨(eb_tb7 174 rfl rfl), (eb_tb1 18 rfl rfl), ⟨nhRX11.1, nhRX11.2, by decide +kernel⟩, by decide⟩, (eb_tb7 172 rfl rfl), (eb_tb7 173 rfl rfl), by decide, _, _, rfl⟩
abbrev mX11_pullWithout : eb_M := (yX11_pullWithout, cX11_pullWithout, 2, some .int)
theorem mvX11_pullWithout : eb_MV mX11_pullWithout 1 11 := ⟨⟨(eb_tb7 178 rfl rfl), (eb_tb1 18 rfl rfl), ⟨nhRX11.1, nhRX11.2, by decide +kernel⟩, by decide⟩, (eb_tb7 177 rfl rfl), (eb_tbp 83 rfl rfl), by decide, _, _, rfl⟩
abbrev mX11_bears : eb_M := (yX11_bears, cX11_bears, 2, some .int)
theorem mvX11_bears : eb_MV mX11_bears 0 11 := ⟨⟨(eb_tb7 182 rfl rfl), (eb_tb1 18 rfl rfl), ⟨nhRX11.1, nhRX11.2, by decide +kernel⟩, by decide⟩, (eb_tb7 180 rfl rfl), (eb_tb7 181 rfl rfl), by decide, _, _, rfl⟩
abbrev mX11_parties : eb_M := (yX11_parties, cX11_parties, 3, some .int)
theorem mvX11_parties : eb_MV mX11_parties 0 11 := ⟨⟨(eb_tb7 186 rfl rfl), (eb_tb1 18 rfl rfl), ⟨nhRX11.1, nhRX11.2, by decide +kernel⟩, by decide⟩, (eb_tb7 184 rfl rfl), (eb_tb7 185 rfl rfl), by decide, _, _, rfl⟩
abbrev mX11_all : eb_M := (yX11_all, cX11_all, 1, some .int)
theorem mvX11_all : eb_MV mX11_all 0 11 := ⟨⟨(eb_tb7 190 rfl rfl), (eb_tb1 18 rfl rfl), ⟨nhRX11.1, nhRX11.2, by decide +kernel⟩, by decide⟩, (eb_tb7 189 rfl rfl), (eb_tbp 84 rfl rfl), by decide, _, _, rfl⟩
abbrev mX11_differing : eb_M := (yX11_differing, cX11_differing, 2, some .int)
theorem mvX11_differing : eb_MV mX11_differing 1 11 := ⟨⟨(eb_tb7 194 rfl rfl), (eb_tb1 18 rfl rfl), ⟨nhRX11.1, nhRX11.2, by decide +kernel⟩, by decide⟩, (eb_tb7 193 rfl rfl), (eb_tbp 85 rfl rfl), by decide, _, _, rfl⟩
abbrev mX11_weightsOf : eb_M := (yX11_weightsOf, cX11_weightsOf, 4, some .int)
theorem mvX11_weightsOf : eb_MV mX11_weightsOf 1 11 := ⟨⟨(eb_tb7 198 rfl rfl), (eb_tb1 18 rfl rfl), ⟨nhRX11.1, nhRX11.2, by decide +kernel⟩, by decide⟩, (eb_tb7 197 rfl rfl), (eb_tbp 86 rfl rfl), by decide, _, _, rfl⟩
abbrev mX11_has : eb_M := (yX11_has, cX11_has, 2, some .boolean)
theorem msX11_has : eb_MS mX11_has 2 := ⟨⟨(eb_tb7 201 rfl rfl), (eb_tb1 18 rfl rfl), ⟨nhRX11.1, nhRX11.2, by decide +kernel⟩, by decide⟩, (eb_tb7 200 rfl rfl)⟩
abbrev mX11_just : eb_M := (yX11_just, cX11_just, 5, some .int)
theorem mvX11_just : eb_MV mX11_just 1 11 := ⟨⟨(eb_tb7 205 rfl rfl), (eb_tb1 18 rfl rfl), ⟨nhRX11.1, nhRX11.2, by decide +kernel⟩, by decide⟩, (eb_tb7 203 rfl rfl), (eb_tb7 204 rfl rfl), by decide, _, _, rfl⟩
abbrev mX11_swaps : eb_M := (yX11_swaps, cX11_swaps, 6, some .int)
theorem mvX11_swaps : eb_MV mX11_swaps 0 11 := ⟨⟨(eb_tb7 210 rfl rfl), (eb_tb1 18 rfl rfl), ⟨nhRX11.1, nhRX11.2, by decide +kernel⟩, by decide⟩, (eb_tb7 208 rfl rfl), (eb_tb7 209 rfl rfl), by decide, _, _, rfl⟩
abbrev mX11_pullSwapped : eb_M := (yX11_pullSwapped, cX11_pullSwapped, 3, some .int)
theorem mvX11_pullSwapped : eb_MV mX11_pullSwapped 2 11 := ⟨⟨(eb_tb7 214 rfl rfl), (eb_tb1 18 rfl rfl), ⟨nhRX11.1, nhRX11.2, by decide +kernel⟩, by decide⟩, (eb_tb7 213 rfl rfl), (eb_tbp 87 rfl rfl), by decide, _, _, rfl⟩
abbrev mX11_line : eb_M := (yX11_line, cX11_line, 5, some .int)
theorem mvX11_line : eb_MV mX11_line 0 11 := ⟨⟨(eb_tb7 218 rfl rfl), (eb_tb1 18 rfl rfl), ⟨nhRX11.1, nhRX11.2, by decide +kernel⟩, by decide⟩, (eb_tb7 216 rfl rfl), (eb_tb7 217 rfl rfl), by decide, _, _, rfl⟩
abbrev mX11_apart : eb_M := (yX11_apart, cX11_apart, 3, some .int)
theorem mvX11_apart : eb_MV mX11_apart 0 11 := ⟨⟨(eb_tb7 222 rfl rfl), (eb_tb1 18 rfl rfl), ⟨nhRX11.1, nhRX11.2, by decide +kernel⟩, by decide⟩, (eb_tb7 220 rfl rfl), (eb_tb7 221 rfl rfl), by decide, _, _, rfl⟩
abbrev mX11_areApart : eb_M := (yX11_areApart, cX11_areApart, 4, some .boolean)
theorem mvX11_areApart : eb_MV mX11_areApart 1 11 := ⟨⟨(eb_tb7 226 rfl rfl), (eb_tb1 18 rfl rfl), ⟨nhRX11.1, nhRX11.2, by decide +kernel⟩, by decide⟩, (eb_tb7 225 rfl rfl), (eb_tbp 88 rfl rfl), by decide, _, _, rfl⟩
abbrev mX11_saw : eb_M := (yX11_saw, cX11_saw, 4, some .int)
theorem mvX11_saw : eb_MV mX11_saw 3 11 := ⟨⟨(eb_tb7 230 rfl rfl), (eb_tb1 18 rfl rfl), ⟨nhRX11.1, nhRX11.2, by decide +kernel⟩, by decide⟩, (eb_tb7 228 rfl rfl), (eb_tb7 229 rfl rfl), by decide, _, _, rfl⟩
abbrev mX11_denies : eb_M := (yX11_denies, cX11_denies, 2, some .int)
theorem mvX11_denies : eb_MV mX11_denies 0 11 := ⟨⟨(eb_tb7 234 rfl rfl), (eb_tb1 18 rfl rfl), ⟨nhRX11.1, nhRX11.2, by decide +kernel⟩, by decide⟩, (eb_tb7 232 rfl rfl), (eb_tb7 233 rfl rfl), by decide, _, _, rfl⟩
abbrev mX11_minds : eb_M := (yX11_minds, cX11_minds, 3, some .int)
theorem mvX11_minds : eb_MV mX11_minds 1 11 := ⟨⟨(eb_tb7 238 rfl rfl), (eb_tb1 18 rfl rfl), ⟨nhRX11.1, nhRX11.2, by decide +kernel⟩, by decide⟩, (eb_tb7 236 rfl rfl), (eb_tb7 237 rfl rfl), by decide, _, _, rfl⟩
abbrev mX11_laySides : eb_M := (yX11_laySides, cX11_laySides, 3, none)
theorem mvX11_laySides : eb_MV mX11_laySides 1 11 := ⟨⟨(eb_tb8 2 rfl rfl), (eb_tb1 18 rfl rfl), ⟨nhRX11.1, nhRX11.2, by decide +kernel⟩, by decide⟩, (eb_tb8 1 rfl rfl), (eb_tbp 89 rfl rfl), by decide, _, _, rfl⟩
abbrev mX11_thinkable : eb_M := (yX11_thinkable, cX11_thinkable, 5, some .int)
theorem mvX11_thinkable : eb_MV mX11_thinkable 0 11 := ⟨⟨(eb_tb8 6 rfl rfl), (eb_tb1 18 rfl rfl), ⟨nhRX11.1, nhRX11.2, by decide +kernel⟩, by decide⟩, (eb_tb8 5 rfl rfl), (eb_tbp 90 rfl rfl), by decide, _, _, rfl⟩
abbrev mX11_pullSeen : eb_M := (yX11_pullSeen, cX11_pullSeen, 4, some .int)
theorem mvX11_pullSeen : eb_MV mX11_pullSeen 3 11 := ⟨⟨(eb_tb8 10 rfl rfl), (eb_tb1 18 rfl rfl), ⟨nhRX11.1, nhRX11.2, by decide +kernel⟩, by decide⟩, (eb_tb8 9 rfl rfl), (eb_tbp 91 rfl rfl), by decide, _, _, rfl⟩
abbrev mX11_looks : eb_M := (yX11_looks, cX11_looks, 11, some .int)
theorem mvX11_looks : eb_MV mX11_looks 1 11 := ⟨⟨(eb_tb8 14 rfl rfl), (eb_tb1 18 rfl rfl), ⟨nhRX11.1, nhRX11.2, by decide +kernel⟩, by decide⟩, (eb_tb8 12 rfl rfl), (eb_tb8 13 rfl rfl), by decide, _, _, rfl⟩
abbrev mX11_heard : eb_M := (yX11_heard, cX11_heard, 3, some .int)
theorem mvX11_heard : eb_MV mX11_heard 2 11 := ⟨⟨(eb_tb8 18 rfl rfl), (eb_tb1 18 rfl rfl), ⟨nhRX11.1, nhRX11.2, by decide +kernel⟩, by decide⟩, (eb_tb8 16 rfl rfl), (eb_tb8 17 rfl rfl), by decide, _, _, rfl⟩
abbrev mX11_highOf : eb_M := (yX11_highOf, cX11_highOf, 1, some .int)
theorem msX11_highOf : eb_MS mX11_highOf 1 := ⟨⟨(eb_tb8 21 rfl rfl), (eb_tb1 18 rfl rfl), ⟨nhRX11.1, nhRX11.2, by decide +kernel⟩, by decide⟩, (eb_tb8 20 rfl rfl)⟩
abbrev mX11_forget : eb_M := (yX11_forget, cX11_forget, 2, some .int)
theorem mvX11_forget : eb_MV mX11_forget 0 11 := ⟨⟨(eb_tb8 25 rfl rfl), (eb_tb1 18 rfl rfl), ⟨nhRX11.1, nhRX11.2, by decide +kernel⟩, by decide⟩, (eb_tb8 23 rfl rfl), (eb_tb8 24 rfl rfl), by decide, _, _, rfl⟩
abbrev mX11_fits : eb_M := (yX11_fits, cX11_fits, 2, some .int)
theorem mvX11_fits : eb_MV mX11_fits 0 11 := ⟨⟨(eb_tb8 29 rfl rfl), (eb_tb1 18 rfl rfl), ⟨nhRX11.1, nhRX11.2, by decide +kernel⟩, by decide⟩, (eb_tb8 27 rfl rfl), (eb_tb8 28 rfl rfl), by decide, _, _, rfl⟩
abbrev mX11_fitting : eb_M := (yX11_fitting, cX11_fitting, 5, some .int)
theorem mvX11_fitting : eb_MV mX11_fitting 0 11 := ⟨⟨(eb_tb8 33 rfl rfl), (eb_tb1 18 rfl rfl), ⟨nhRX11.1, nhRX11.2, by decide +kernel⟩, by decide⟩, (eb_tb8 32 rfl rfl), (eb_tbp 92 rfl rfl), by decide, _, _, rfl⟩
abbrev mX11_isSo : eb_M := (yX11_isSo, cX11_isSo, 4, some .boolean)
theorem mvX11_isSo : eb_MV mX11_isSo 3 11 := ⟨⟨(eb_tb8 37 rfl rfl), (eb_tb1 18 rfl rfl), ⟨nhRX11.1, nhRX11.2, by decide +kernel⟩, by decide⟩, (eb_tb8 36 rfl rfl), (eb_tbp 93 rfl rfl), by decide, _, _, rfl⟩
abbrev mX11_asks : eb_M := (yX11_asks, cX11_asks, 7, some .int)
theorem mvX11_asks : eb_MV mX11_asks 0 11 := ⟨⟨(eb_tb8 41 rfl rfl), (eb_tb1 18 rfl rfl), ⟨nhRX11.1, nhRX11.2, by decide +kernel⟩, by decide⟩, (eb_tb8 39 rfl rfl), (eb_tb8 40 rfl rfl), by decide, _, _, rfl⟩
abbrev mX11_grave : eb_M := (yX11_grave, cX11_grave, 11, some .int)
theorem mvX11_grave : eb_MV mX11_grave 2 11 := ⟨⟨(eb_tb8 45 rfl rfl), (eb_tb1 18 rfl rfl), ⟨nhRX11.1, nhRX11.2, by decide +kernel⟩, by decide⟩, (eb_tb8 43 rfl rfl), (eb_tb8 44 rfl rfl), by decide, _, _, rfl⟩
abbrev mX11_common : eb_M := (yX11_common, cX11_common, 4, some .long)
theorem msX11_common : eb_MS mX11_common 2 := ⟨⟨(eb_tb8 49 rfl rfl), (eb_tb1 18 rfl rfl), ⟨nhRX11.1, nhRX11.2, by decide +kernel⟩, by decide⟩, (eb_tb8 48 rfl rfl)⟩
abbrev mX11_cake : eb_M := (yX11_cake, cX11_cake, 6, some .int)
theorem mvX11_cake : eb_MV mX11_cake 2 11 := ⟨⟨(eb_tb8 53 rfl rfl), (eb_tb1 18 rfl rfl), ⟨nhRX11.1, nhRX11.2, by decide +kernel⟩, by decide⟩, (eb_tb8 51 rfl rfl), (eb_tb8 52 rfl rfl), by decide, _, _, rfl⟩
abbrev mX11_cakeOf : eb_M := (yX11_cakeOf, cX11_cakeOf, 3, some .int)
theorem msX11_cakeOf : eb_MS mX11_cakeOf 3 := ⟨⟨(eb_tb8 56 rfl rfl), (eb_tb1 18 rfl rfl), ⟨nhRX11.1, nhRX11.2, by decide +kernel⟩, by decide⟩, (eb_tb8 55 rfl rfl)⟩
abbrev mX11_pieceOf : eb_M := (yX11_pieceOf, cX11_pieceOf, 9, some .int)
theorem mvX11_pieceOf : eb_MV mX11_pieceOf 3 11 := ⟨⟨(eb_tb8 60 rfl rfl), (eb_tb1 18 rfl rfl), ⟨nhRX11.1, nhRX11.2, by decide +kernel⟩, by decide⟩, (eb_tb8 59 rfl rfl), (eb_tbp 94 rfl rfl), by decide, _, _, rfl⟩
abbrev mX11_rests : eb_M := (yX11_rests, cX11_rests, 5, some .int)
theorem mvX11_rests : eb_MV mX11_rests 1 11 := ⟨⟨(eb_tb8 64 rfl rfl), (eb_tb1 18 rfl rfl), ⟨nhRX11.1, nhRX11.2, by decide +kernel⟩, by decide⟩, (eb_tb8 62 rfl rfl), (eb_tb8 63 rfl rfl), by decide, _, _, rfl⟩
abbrev mX11_isBest : eb_M := (yX11_isBest, cX11_isBest, 4, some .boolean)
theorem msX11_isBest : eb_MS mX11_isBest 3 := ⟨⟨(eb_tb8 67 rfl rfl), (eb_tb1 18 rfl rfl), ⟨nhRX11.1, nhRX11.2, by decide +kernel⟩, by decide⟩, (eb_tb8 66 rfl rfl)⟩
abbrev mX11_gets : eb_M := (yX11_gets, cX11_gets, 3, some .int)
theorem msX11_gets : eb_MS mX11_gets 3 := ⟨⟨(eb_tb8 70 rfl rfl), (eb_tb1 18 rfl rfl), ⟨nhRX11.1, nhRX11.2, by decide +kernel⟩, by decide⟩, (eb_tb8 69 rfl rfl)⟩
abbrev mX11_law : eb_M := (yX11_law, cX11_law, 7, some .int)
theorem mvX11_law : eb_MV mX11_law 0 11 := ⟨⟨(eb_tb8 74 rfl rfl), (eb_tb1 18 rfl rfl), ⟨nhRX11.1, nhRX11.2, by decide +kernel⟩, by decide⟩, (eb_tb8 72 rfl rfl), (eb_tb8 73 rfl rfl), by decide, _, _, rfl⟩
abbrev mX11_years : eb_M := (yX11_years, cX11_years, 6, some .int)
theorem mvX11_years : eb_MV mX11_years 2 11 := ⟨⟨(eb_tb8 79 rfl rfl), (eb_tb1 18 rfl rfl), ⟨nhRX11.1, nhRX11.2, by decide +kernel⟩, by decide⟩, (eb_tb8 77 rfl rfl), (eb_tb8 78 rfl rfl), by decide, _, _, rfl⟩
abbrev mX11_draw : eb_M := (yX11_draw, cX11_draw, 2, some .int)
theorem mvX11_draw : eb_MV mX11_draw 1 11 := ⟨⟨(eb_tb8 83 rfl rfl), (eb_tb1 18 rfl rfl), ⟨nhRX11.1, nhRX11.2, by decide +kernel⟩, by decide⟩, (eb_tb8 82 rfl rfl), (eb_tbp 95 rfl rfl), by decide, _, _, rfl⟩
abbrev mX11_keep : eb_M := (yX11_keep, cX11_keep, 2, some .boolean)
theorem mvX11_keep : eb_MV mX11_keep 1 11 := ⟨⟨(eb_tb8 88 rfl rfl), (eb_tb1 18 rfl rfl), ⟨nhRX11.1, nhRX11.2, by decide +kernel⟩, by decide⟩, (eb_tb8 86 rfl rfl), (eb_tb8 87 rfl rfl), by decide, _, _, rfl⟩
abbrev mX11_again : eb_M := (yX11_again, cX11_again, 3, some .boolean)
theorem mvX11_again : eb_MV mX11_again 1 11 := ⟨⟨(eb_tb8 92 rfl rfl), (eb_tb1 18 rfl rfl), ⟨nhRX11.1, nhRX11.2, by decide +kernel⟩, by decide⟩, (eb_tb8 90 rfl rfl), (eb_tb8 91 rfl rfl), by decide, _, _, rfl⟩
abbrev mX11_count : eb_M := (yX11_count, cX11_count, 2, some .int)
theorem mvX11_count : eb_MV mX11_count 1 11 := ⟨⟨(eb_tb8 96 rfl rfl), (eb_tb1 18 rfl rfl), ⟨nhRX11.1, nhRX11.2, by decide +kernel⟩, by decide⟩, (eb_tb8 94 rfl rfl), (eb_tb8 95 rfl rfl), by decide, _, _, rfl⟩
abbrev mX11_row : eb_M := (yX11_row, cX11_row, 2, some .long)
theorem mvX11_row : eb_MV mX11_row 1 11 := ⟨⟨(eb_tb8 100 rfl rfl), (eb_tb1 18 rfl rfl), ⟨nhRX11.1, nhRX11.2, by decide +kernel⟩, by decide⟩, (eb_tb8 98 rfl rfl), (eb_tb8 99 rfl rfl), by decide, _, _, rfl⟩
theorem clL_8 : Cond.classLink RL 8 RX10 ∈ eb_tbl := (eb_tb1 24 rfl rfl)
theorem nlL_8 : eb_NL RL 8 10 := ⟨RX10, TX10, 18, rfl, eb_inT inX10, rfl, by decide, tyX10_ok, (eb_tb1 24 rfl rfl), (eb_tb1 25 rfl rfl), (eb_tb1 1 rfl rfl), by decide⟩
theorem mlL_23 : eb_ML RL 23 yX10_init := Or.inl (eb_tb1 26 rfl rfl)
theorem olX10_1 : Cond.methodLink RX10 1 Lib.objectInit ∈ eb_tbl := (eb_tb1 29 rfl rfl)
theorem clX10_7 : Cond.classLink RX10 7 RX9 ∈ eb_tbl := (eb_tb1 32 rfl rfl)
theorem nlX10_7 : eb_NL RX10 7 9 := ⟨RX9, TX9, 2, rfl, eb_inT inX9, rfl, by decide, tyX9_ok, (eb_tb1 32 rfl rfl), (eb_tb1 33 rfl rfl), (eb_tb1 2 rfl rfl), by decide⟩
theorem mlX10_9 : eb_ML RX10 9 yX9_init := Or.inr ⟨_, (eb_tn1 34 rfl rfl)⟩
theorem olX9_3 : Cond.methodLink RX9 3 Lib.objectInit ∈ eb_tbl := (eb_tb1 37 rfl rfl)
theorem flX9_9 : eb_FL RX9 9 9 0 2 := ⟨RX9, TX9, 2, rfl, eb_inT inX9, by decide, rfl, rfl, by decide, Or.inl (eb_tb1 38 rfl rfl)⟩
theorem plX9_9 : eb_PL RX9 9 9 0 2 true := ⟨RX9, TX9, 2, rfl, eb_inT inX9, by decide, rfl, rfl, by decide, Or.inl (eb_tb1 38 rfl rfl), tyX9_ok, nmX9, rfl, fun _ => rfl⟩
theorem flX9_15 : eb_FL RX9 15 9 1 0 := ⟨RX9, TX9, 2, rfl, eb_inT inX9, by decide, rfl, rfl, by decide, Or.inl (eb_tb1 39 rfl rfl)⟩
theorem plX9_15 : eb_PL RX9 15 9 1 0 false := ⟨RX9, TX9, 2, rfl, eb_inT inX9, by decide, rfl, rfl, by decide, Or.inl (eb_tb1 39 rfl rfl), tyX9_ok, nmX9, rfl, fun h => by cases h⟩
theorem flX5_28 : eb_FL RX5 28 9 1 0 := ⟨RX9, TX9, 2, rfl, eb_inT inX9, by decide, rfl, rfl, by decide, Or.inr ⟨_, (eb_tn1 40 rfl rfl)⟩⟩
theorem plX5_28 : eb_PL RX5 28 9 1 0 false := ⟨RX9, TX9, 2, rfl, eb_inT inX9, by decide, rfl, rfl, by decide, Or.inr ⟨rfl, _, (eb_tn1 40 rfl rfl)⟩, tyX9_ok, nmX9, rfl, fun h => by cases h⟩
theorem flX10_108 : eb_FL RX10 108 9 1 0 := ⟨RX9, TX9, 2, rfl, eb_inT inX9, by decide, rfl, rfl, by decide, Or.inr ⟨_, (eb_tn1 41 rfl rfl)⟩⟩
theorem plX10_108 : eb_PL RX10 108 9 1 0 false := ⟨RX9, TX9, 2, rfl, eb_inT inX9, by decide, rfl, rfl, by decide, Or.inr ⟨rfl, _, (eb_tn1 41 rfl rfl)⟩, tyX9_ok, nmX9, rfl, fun h => by cases h⟩
theorem flX6_47 : eb_FL RX6 47 9 1 0 := ⟨RX9, TX9, 2, rfl, eb_inT inX9, by decide, rfl, rfl, by decide, Or.inr ⟨_, (eb_tn1 42 rfl rfl)⟩⟩
theorem plX6_47 : eb_PL RX6 47 9 1 0 false := ⟨RX9, TX9, 2, rfl, eb_inT inX9, by decide, rfl, rfl, by decide, Or.inr ⟨rfl, _, (eb_tn1 42 rfl rfl)⟩, tyX9_ok, nmX9, rfl, fun h => by cases h⟩
theorem flX7_40 : eb_FL RX7 40 9 1 0 := ⟨RX9, TX9, 2, rfl, eb_inT inX9, by decide, rfl, rfl, by decide, Or.inr ⟨_, (eb_tn1 43 rfl rfl)⟩⟩
theorem plX7_40 : eb_PL RX7 40 9 1 0 false := ⟨RX9, TX9, 2, rfl, eb_inT inX9, by decide, rfl, rfl, by decide, Or.inr ⟨rfl, _, (eb_tn1 43 rfl rfl)⟩, tyX9_ok, nmX9, rfl, fun h => by cases h⟩
theorem ac_int : Cond.arrayClass .int ∈ eb_tbl := (eb_tb1 49 rfl rfl)
theorem clX10_16 : Cond.classLink RX10 16 RX4 ∈ eb_tbl := (eb_tb1 50 rfl rfl)
theorem nlX10_16 : eb_NL RX10 16 4 := ⟨RX4, TX4, 2, rfl, eb_inT inX4, rfl, by decide, tyX4_ok, (eb_tb1 50 rfl rfl), (eb_tb1 51 rfl rfl), (eb_tb1 3 rfl rfl), by decide⟩
theorem mlX10_18 : eb_ML RX10 18 yX4_init := Or.inr ⟨_, (eb_tn1 52 rfl rfl)⟩
theorem olX4_1 : Cond.methodLink RX4 1 Lib.objectInit ∈ eb_tbl := (eb_tb1 55 rfl rfl)
theorem flX4_7 : eb_FL RX4 7 4 0 2 := ⟨RX4, TX4, 2, rfl, eb_inT inX4, by decide, rfl, rfl, by decide, Or.inl (eb_tb1 56 rfl rfl)⟩
theorem plX4_7 : eb_PL RX4 7 4 0 2 true := ⟨RX4, TX4, 2, rfl, eb_inT inX4, by decide, rfl, rfl, by decide, Or.inl (eb_tb1 56 rfl rfl), tyX4_ok, nmX4, rfl, fun _ => rfl⟩
theorem flX10_420 : eb_FL RX10 420 4 0 2 := ⟨RX4, TX4, 2, rfl, eb_inT inX4, by decide, rfl, rfl, by decide, Or.inr ⟨_, (eb_tn1 57 rfl rfl)⟩⟩
theorem flX4_13 : eb_FL RX4 13 4 1 0 := ⟨RX4, TX4, 2, rfl, eb_inT inX4, by decide, rfl, rfl, by decide, Or.inl (eb_tb1 58 rfl rfl)⟩
theorem plX4_13 : eb_PL RX4 13 4 1 0 false := ⟨RX4, TX4, 2, rfl, eb_inT inX4, by decide, rfl, rfl, by decide, Or.inl (eb_tb1 58 rfl rfl), tyX4_ok, nmX4, rfl, fun h => by cases h⟩
theorem flX10_419 : eb_FL RX10 419 4 1 0 := ⟨RX4, TX4, 2, rfl, eb_inT inX4, by decide, rfl, rfl, by decide, Or.inr ⟨_, (eb_tn1 59 rfl rfl)⟩⟩
theorem plX10_419 : eb_PL RX10 419 4 1 0 false := ⟨RX4, TX4, 2, rfl, eb_inT inX4, by decide, rfl, rfl, by decide, Or.inr ⟨rfl, _, (eb_tn1 59 rfl rfl)⟩, tyX4_ok, nmX4, rfl, fun h => by cases h⟩
theorem ac_long : Cond.arrayClass .long ∈ eb_tbl := (eb_tb1 65 rfl rfl)
theorem clX10_23 : Cond.classLink RX10 23 RX6 ∈ eb_tbl := (eb_tb1 66 rfl rfl)
theorem nlX10_23 : eb_NL RX10 23 6 := ⟨RX6, TX6, 9, rfl, eb_inT inX6, rfl, by decide, tyX6_ok, (eb_tb1 66 rfl rfl), (eb_tb1 67 rfl rfl), (eb_tb1 4 rfl rfl), by decide⟩
theorem mlX10_25 : eb_ML RX10 25 yX6_init := Or.inr ⟨_, (eb_tn1 68 rfl rfl)⟩
theorem olX6_3 : Cond.methodLink RX6 3 Lib.objectInit ∈ eb_tbl := (eb_tb1 71 rfl rfl)
theorem clX6_22 : Cond.classLink RX6 22 RX5 ∈ eb_tbl := (eb_tb1 72 rfl rfl)
theorem nlX6_22 : eb_NL RX6 22 5 := ⟨RX5, TX5, 11, rfl, eb_inT inX5, rfl, by decide, tyX5_ok, (eb_tb1 72 rfl rfl), (eb_tb1 73 rfl rfl), (eb_tb1 5 rfl rfl), by decide⟩
theorem mlX6_24 : eb_ML RX6 24 yX5_init := Or.inl (eb_tb1 74 rfl rfl)
theorem olX5_3 : Cond.methodLink RX5 3 Lib.objectInit ∈ eb_tbl := (eb_tb1 77 rfl rfl)
theorem mlX5_25 : eb_ML RX5 25 yX5_beThePlainOne := Or.inl (eb_tb1 78 rfl rfl)
theorem mlX5_34 : eb_ML RX5 34 yX5_begin := Or.inl (eb_tb1 82 rfl rfl)
theorem mlX5_45 : eb_ML RX5 45 yX5_takeThing := Or.inl (eb_tb1 86 rfl rfl)
theorem mlX5_76 : eb_ML RX5 76 yX5_hold := Or.inl (eb_tb1 90 rfl rfl)
theorem mlX5_79 : eb_ML RX5 79 yX5_open := Or.inl (eb_tb1 94 rfl rfl)
theorem mlX5_85 : eb_ML RX5 85 yJ0_indexOf_0f7a4 := Or.inl (eb_tb1 99 rfl rfl)
theorem mlJ0_633 : eb_ML RJ0 633 yJ0_indexOf_7cf53 := Or.inl (eb_tb1 103 rfl rfl)
theorem mlJ0_492 : eb_ML RJ0 492 yJ0_isLatin1_aae02 := Or.inl (eb_tb1 107 rfl rfl)
theorem xlJ0_38 : Cond.fieldLink RJ0 38 "java/lang/String" "COMPACT_STRINGS" "Z" ∈ eb_tbl := (eb_tb1 111 rfl rfl)
theorem mlJ0_505 : eb_ML RJ0 505 yJ0_length_8abf5 := Or.inl (eb_tb1 113 rfl rfl)
theorem mlJ0_335 : eb_ML RJ0 335 yJ0_coder_7d493 := Or.inl (eb_tb1 117 rfl rfl)
theorem mlJ0_637 : eb_ML RJ0 637 yJ1_indexOf_4cfef := Or.inl (eb_tb1 121 rfl rfl)
theorem mlJ1_88 : eb_ML RJ1 88 yJ1_canEncode_9a6ad := Or.inl (eb_tb1 124 rfl rfl)
theorem xmJ1_92 : Cond.methodLink RJ1 92 Lib.Math.max.name ∈ eb_tbl := (eb_tb1 127 rfl rfl)
theorem xmJ1_38 : Cond.methodLink RJ1 38 Lib.Math.min.name ∈ eb_tbl := (eb_tb1 130 rfl rfl)
theorem mlJ1_95 : eb_ML RJ1 95 yJ1_indexOfChar_4cfef := Or.inl (eb_tb1 133 rfl rfl)
theorem mlJ0_640 : eb_ML RJ0 640 yJ2_indexOf_4cfef := Or.inl (eb_tb1 136 rfl rfl)
theorem xmJ2_224 : Cond.methodLink RJ2 224 Lib.Math.max.name ∈ eb_tbl := (eb_tb1 139 rfl rfl)
theorem xmJ2_183 : Cond.methodLink RJ2 183 Lib.Math.min.name ∈ eb_tbl := (eb_tb1 140 rfl rfl)
theorem kcJ2_227 : Jvm.Cond.constant RJ2 227 65536 ∈ eb_tbl := (eb_tb1 141 rfl rfl)
theorem mlJ2_228 : eb_ML RJ2 228 yJ2_indexOfChar_4cfef := Or.inl (eb_tb1 142 rfl rfl)
theorem mlJ2_96 : eb_ML RJ2 96 yJ2_checkBoundsBeginEnd_d044e := Or.inl (eb_tb1 145 rfl rfl)
theorem mlJ2_48 : eb_ML RJ2 48 yJ2_length_9d52b := Or.inl (eb_tb1 148 rfl rfl)
theorem mlJ2_241 : eb_ML RJ2 241 yJ0_checkBoundsBeginEnd_23922 := Or.inl (eb_tb1 151 rfl rfl)
theorem xlJ0_1053 : Cond.fieldLink RJ0 1053 "jdk/internal/util/Preconditions" "SIOOBE_FORMATTER" "Ljava/util/function/BiFunction;" ∈ eb_tbl := (eb_tb1 154 rfl rfl)
theorem mlJ0_1062 : eb_ML RJ0 1062 yJ3_checkFromToIndex_8c36e := Or.inl (eb_tb1 156 rfl rfl)
theorem mlJ2_244 : eb_ML RJ2 244 yJ2_indexOfCharUnsafe_4cfef := Or.inl (eb_tb1 159 rfl rfl)
theorem mlJ2_71 : eb_ML RJ2 71 yJ2_getChar_3b067 := Or.inl (eb_tb1 162 rfl rfl)
theorem xlJ2_44 : Cond.fieldLink RJ2 44 "java/lang/StringUTF16" "$assertionsDisabled" "Z" ∈ eb_tbl := (eb_tb1 165 rfl rfl)
theorem xlJ2_59 : Cond.fieldLink RJ2 59 "java/lang/StringUTF16" "HI_BYTE_SHIFT" "I" ∈ eb_tbl := (eb_tb1 167 rfl rfl)
theorem xlJ2_63 : Cond.fieldLink RJ2 63 "java/lang/StringUTF16" "LO_BYTE_SHIFT" "I" ∈ eb_tbl := (eb_tb1 169 rfl rfl)
theorem mlJ2_232 : eb_ML RJ2 232 yJ2_indexOfSupplementary_4cfef := Or.inl (eb_tb1 171 rfl rfl)
theorem mlJ2_164 : eb_ML RJ2 164 yJ11_isValidCodePoint_9a6ad := Or.inl (eb_tb1 174 rfl rfl)
theorem mlJ2_157 : eb_ML RJ2 157 yJ11_highSurrogate_5068e := Or.inl (eb_tb1 177 rfl rfl)
theorem kcJ11_110 : Jvm.Cond.constant RJ11 110 55232 ∈ eb_tbl := (eb_tb1 180 rfl rfl)
theorem mlJ2_161 : eb_ML RJ2 161 yJ11_lowSurrogate_5068e := Or.inl (eb_tb1 181 rfl rfl)
theorem kcJ11_76 : Jvm.Cond.constant RJ11 76 56320 ∈ eb_tbl := (eb_tb1 184 rfl rfl)
theorem mlX5_90 : eb_ML RX5 90 yX10_within := Or.inr ⟨_, (eb_tn1 185 rfl rfl)⟩
theorem mlX5_94 : eb_ML RX5 94 yX5_emit := Or.inl (eb_tb1 188 rfl rfl)
theorem mlX5_49 : eb_ML RX5 49 yX5_takeJoint := Or.inl (eb_tb1 192 rfl rfl)
theorem mlX5_97 : eb_ML RX5 97 yX5_lengthenNumber := Or.inl (eb_tb1 196 rfl rfl)
theorem mlX5_100 : eb_ML RX5 100 yX5_close := Or.inl (eb_tb1 200 rfl rfl)
theorem mlX5_52 : eb_ML RX5 52 yX5_release := Or.inl (eb_tb1 204 rfl rfl)
theorem mlX5_103 : eb_ML RX5 103 yX5_rankOf := Or.inl (eb_tb1 208 rfl rfl)
theorem xmX5_106 : Cond.methodLink RX5 106 Lib.Math.max.name ∈ eb_tbl := (eb_tb1 211 rfl rfl)
theorem flX5_11 : eb_FL RX5 11 5 0 2 := ⟨RX5, TX5, 11, rfl, eb_inT inX5, by decide, rfl, rfl, by decide, Or.inl (eb_tb1 212 rfl rfl)⟩
theorem plX5_11 : eb_PL RX5 11 5 0 2 true := ⟨RX5, TX5, 11, rfl, eb_inT inX5, by decide, rfl, rfl, by decide, Or.inl (eb_tb1 212 rfl rfl), tyX5_ok, nmX5, rfl, fun _ => rfl⟩
theorem flX5_15 : eb_FL RX5 15 5 1 2 := ⟨RX5, TX5, 11, rfl, eb_inT inX5, by decide, rfl, rfl, by decide, Or.inl (eb_tb1 213 rfl rfl)⟩
theorem plX5_15 : eb_PL RX5 15 5 1 2 true := ⟨RX5, TX5, 11, rfl, eb_inT inX5, by decide, rfl, rfl, by decide, Or.inl (eb_tb1 213 rfl rfl), tyX5_ok, nmX5, rfl, fun _ => rfl⟩
theorem flX5_18 : eb_FL RX5 18 5 2 2 := ⟨RX5, TX5, 11, rfl, eb_inT inX5, by decide, rfl, rfl, by decide, Or.inl (eb_tb1 214 rfl rfl)⟩
theorem plX5_18 : eb_PL RX5 18 5 2 2 true := ⟨RX5, TX5, 11, rfl, eb_inT inX5, by decide, rfl, rfl, by decide, Or.inl (eb_tb1 214 rfl rfl), tyX5_ok, nmX5, rfl, fun _ => rfl⟩
theorem flX5_21 : eb_FL RX5 21 5 3 2 := ⟨RX5, TX5, 11, rfl, eb_inT inX5, by decide, rfl, rfl, by decide, Or.inl (eb_tb1 215 rfl rfl)⟩
theorem plX5_21 : eb_PL RX5 21 5 3 2 true := ⟨RX5, TX5, 11, rfl, eb_inT inX5, by decide, rfl, rfl, by decide, Or.inl (eb_tb1 215 rfl rfl), tyX5_ok, nmX5, rfl, fun _ => rfl⟩
theorem flX5_59 : eb_FL RX5 59 5 4 0 := ⟨RX5, TX5, 11, rfl, eb_inT inX5, by decide, rfl, rfl, by decide, Or.inl (eb_tb1 216 rfl rfl)⟩
theorem plX5_59 : eb_PL RX5 59 5 4 0 false := ⟨RX5, TX5, 11, rfl, eb_inT inX5, by decide, rfl, rfl, by decide, Or.inl (eb_tb1 216 rfl rfl), tyX5_ok, nmX5, rfl, fun h => by cases h⟩
theorem flX5_64 : eb_FL RX5 64 5 5 0 := ⟨RX5, TX5, 11, rfl, eb_inT inX5, by decide, rfl, rfl, by decide, Or.inl (eb_tb1 217 rfl rfl)⟩
theorem plX5_64 : eb_PL RX5 64 5 5 0 false := ⟨RX5, TX5, 11, rfl, eb_inT inX5, by decide, rfl, rfl, by decide, Or.inl (eb_tb1 217 rfl rfl), tyX5_ok, nmX5, rfl, fun h => by cases h⟩
theorem flX5_56 : eb_FL RX5 56 5 6 0 := ⟨RX5, TX5, 11, rfl, eb_inT inX5, by decide, rfl, rfl, by decide, Or.inl (eb_tb1 218 rfl rfl)⟩
theorem plX5_56 : eb_PL RX5 56 5 6 0 false := ⟨RX5, TX5, 11, rfl, eb_inT inX5, by decide, rfl, rfl, by decide, Or.inl (eb_tb1 218 rfl rfl), tyX5_ok, nmX5, rfl, fun h => by cases h⟩
theorem flX5_67 : eb_FL RX5 67 5 7 0 := ⟨RX5, TX5, 11, rfl, eb_inT inX5, by decide, rfl, rfl, by decide, Or.inl (eb_tb1 219 rfl rfl)⟩
theorem plX5_67 : eb_PL RX5 67 5 7 0 false := ⟨RX5, TX5, 11, rfl, eb_inT inX5, by decide, rfl, rfl, by decide, Or.inl (eb_tb1 219 rfl rfl), tyX5_ok, nmX5, rfl, fun h => by cases h⟩
theorem flX5_37 : eb_FL RX5 37 5 8 0 := ⟨RX5, TX5, 11, rfl, eb_inT inX5, by decide, rfl, rfl, by decide, Or.inl (eb_tb1 220 rfl rfl)⟩
theorem plX5_37 : eb_PL RX5 37 5 8 0 false := ⟨RX5, TX5, 11, rfl, eb_inT inX5, by decide, rfl, rfl, by decide, Or.inl (eb_tb1 220 rfl rfl), tyX5_ok, nmX5, rfl, fun h => by cases h⟩
theorem flX5_70 : eb_FL RX5 70 5 9 0 := ⟨RX5, TX5, 11, rfl, eb_inT inX5, by decide, rfl, rfl, by decide, Or.inl (eb_tb1 221 rfl rfl)⟩
theorem plX5_70 : eb_PL RX5 70 5 9 0 false := ⟨RX5, TX5, 11, rfl, eb_inT inX5, by decide, rfl, rfl, by decide, Or.inl (eb_tb1 221 rfl rfl), tyX5_ok, nmX5, rfl, fun h => by cases h⟩
theorem flX6_103 : eb_FL RX6 103 5 9 0 := ⟨RX5, TX5, 11, rfl, eb_inT inX5, by decide, rfl, rfl, by decide, Or.inr ⟨_, (eb_tn1 222 rfl rfl)⟩⟩
theorem plX6_103 : eb_PL RX6 103 5 9 0 false := ⟨RX5, TX5, 11, rfl, eb_inT inX5, by decide, rfl, rfl, by decide, Or.inr ⟨rfl, _, (eb_tn1 222 rfl rfl)⟩, tyX5_ok, nmX5, rfl, fun h => by cases h⟩
theorem flX5_73 : eb_FL RX5 73 5 10 0 := ⟨RX5, TX5, 11, rfl, eb_inT inX5, by decide, rfl, rfl, by decide, Or.inl (eb_tb1 223 rfl rfl)⟩
theorem plX5_73 : eb_PL RX5 73 5 10 0 false := ⟨RX5, TX5, 11, rfl, eb_inT inX5, by decide, rfl, rfl, by decide, Or.inl (eb_tb1 223 rfl rfl), tyX5_ok, nmX5, rfl, fun h => by cases h⟩
theorem flX6_107 : eb_FL RX6 107 5 10 0 := ⟨RX5, TX5, 11, rfl, eb_inT inX5, by decide, rfl, rfl, by decide, Or.inr ⟨_, (eb_tn1 224 rfl rfl)⟩⟩
theorem plX6_107 : eb_PL RX6 107 5 10 0 false := ⟨RX5, TX5, 11, rfl, eb_inT inX5, by decide, rfl, rfl, by decide, Or.inr ⟨rfl, _, (eb_tn1 224 rfl rfl)⟩, tyX5_ok, nmX5, rfl, fun h => by cases h⟩
theorem ac_boolean : Cond.arrayClass .boolean ∈ eb_tbl := (eb_tb2 8 rfl rfl)
theorem ac_byte : Cond.arrayClass .byte ∈ eb_tbl := (eb_tb2 9 rfl rfl)
theorem flX6_9 : eb_FL RX6 9 6 0 2 := ⟨RX6, TX6, 9, rfl, eb_inT inX6, by decide, rfl, rfl, by decide, Or.inl (eb_tb2 10 rfl rfl)⟩
theorem plX6_9 : eb_PL RX6 9 6 0 2 true := ⟨RX6, TX6, 9, rfl, eb_inT inX6, by decide, rfl, rfl, by decide, Or.inl (eb_tb2 10 rfl rfl), tyX6_ok, nmX6, rfl, fun _ => rfl⟩
theorem flX6_15 : eb_FL RX6 15 6 1 2 := ⟨RX6, TX6, 9, rfl, eb_inT inX6, by decide, rfl, rfl, by decide, Or.inl (eb_tb2 11 rfl rfl)⟩
theorem plX6_15 : eb_PL RX6 15 6 1 2 true := ⟨RX6, TX6, 9, rfl, eb_inT inX6, by decide, rfl, rfl, by decide, Or.inl (eb_tb2 11 rfl rfl), tyX6_ok, nmX6, rfl, fun _ => rfl⟩
theorem flX6_18 : eb_FL RX6 18 6 2 0 := ⟨RX6, TX6, 9, rfl, eb_inT inX6, by decide, rfl, rfl, by decide, Or.inl (eb_tb2 12 rfl rfl)⟩
theorem plX6_18 : eb_PL RX6 18 6 2 0 false := ⟨RX6, TX6, 9, rfl, eb_inT inX6, by decide, rfl, rfl, by decide, Or.inl (eb_tb2 12 rfl rfl), tyX6_ok, nmX6, rfl, fun h => by cases h⟩
theorem flX6_25 : eb_FL RX6 25 6 3 2 := ⟨RX6, TX6, 9, rfl, eb_inT inX6, by decide, rfl, rfl, by decide, Or.inl (eb_tb2 13 rfl rfl)⟩
theorem plX6_25 : eb_PL RX6 25 6 3 2 false := ⟨RX6, TX6, 9, rfl, eb_inT inX6, by decide, rfl, rfl, by decide, Or.inl (eb_tb2 13 rfl rfl), tyX6_ok, nmX6, rfl, fun h => by cases h⟩
theorem flX6_29 : eb_FL RX6 29 6 4 2 := ⟨RX6, TX6, 9, rfl, eb_inT inX6, by decide, rfl, rfl, by decide, Or.inl (eb_tb2 14 rfl rfl)⟩
theorem plX6_29 : eb_PL RX6 29 6 4 2 false := ⟨RX6, TX6, 9, rfl, eb_inT inX6, by decide, rfl, rfl, by decide, Or.inl (eb_tb2 14 rfl rfl), tyX6_ok, nmX6, rfl, fun h => by cases h⟩
theorem flX10_143 : eb_FL RX10 143 6 4 2 := ⟨RX6, TX6, 9, rfl, eb_inT inX6, by decide, rfl, rfl, by decide, Or.inr ⟨_, (eb_tn2 15 rfl rfl)⟩⟩
theorem plX10_143 : eb_PL RX10 143 6 4 2 false := ⟨RX6, TX6, 9, rfl, eb_inT inX6, by decide, rfl, rfl, by decide, Or.inr ⟨rfl, _, (eb_tn2 15 rfl rfl)⟩, tyX6_ok, nmX6, rfl, fun h => by cases h⟩
theorem flX6_32 : eb_FL RX6 32 6 5 2 := ⟨RX6, TX6, 9, rfl, eb_inT inX6, by decide, rfl, rfl, by decide, Or.inl (eb_tb2 16 rfl rfl)⟩
theorem plX6_32 : eb_PL RX6 32 6 5 2 true := ⟨RX6, TX6, 9, rfl, eb_inT inX6, by decide, rfl, rfl, by decide, Or.inl (eb_tb2 16 rfl rfl), tyX6_ok, nmX6, rfl, fun _ => rfl⟩
theorem flX6_35 : eb_FL RX6 35 6 6 2 := ⟨RX6, TX6, 9, rfl, eb_inT inX6, by decide, rfl, rfl, by decide, Or.inl (eb_tb2 17 rfl rfl)⟩
theorem plX6_35 : eb_PL RX6 35 6 6 2 true := ⟨RX6, TX6, 9, rfl, eb_inT inX6, by decide, rfl, rfl, by decide, Or.inl (eb_tb2 17 rfl rfl), tyX6_ok, nmX6, rfl, fun _ => rfl⟩
theorem flX6_38 : eb_FL RX6 38 6 7 2 := ⟨RX6, TX6, 9, rfl, eb_inT inX6, by decide, rfl, rfl, by decide, Or.inl (eb_tb2 18 rfl rfl)⟩
theorem plX6_38 : eb_PL RX6 38 6 7 2 true := ⟨RX6, TX6, 9, rfl, eb_inT inX6, by decide, rfl, rfl, by decide, Or.inl (eb_tb2 18 rfl rfl), tyX6_ok, nmX6, rfl, fun _ => rfl⟩
theorem flX6_100 : eb_FL RX6 100 6 8 0 := ⟨RX6, TX6, 9, rfl, eb_inT inX6, by decide, rfl, rfl, by decide, Or.inl (eb_tb2 19 rfl rfl)⟩
theorem plX6_100 : eb_PL RX6 100 6 8 0 false := ⟨RX6, TX6, 9, rfl, eb_inT inX6, by decide, rfl, rfl, by decide, Or.inl (eb_tb2 19 rfl rfl), tyX6_ok, nmX6, rfl, fun h => by cases h⟩
theorem clX10_30 : Cond.classLink RX10 30 RX7 ∈ eb_tbl := (eb_tb2 39 rfl rfl)
theorem nlX10_30 : eb_NL RX10 30 7 := ⟨RX7, TX7, 9, rfl, eb_inT inX7, rfl, by decide, tyX7_ok, (eb_tb2 39 rfl rfl), (eb_tb2 40 rfl rfl), (eb_tb1 12 rfl rfl), by decide⟩
theorem mlX10_32 : eb_ML RX10 32 yX7_init := Or.inr ⟨_, (eb_tn2 41 rfl rfl)⟩
theorem olX7_3 : Cond.methodLink RX7 3 Lib.objectInit ∈ eb_tbl := (eb_tb2 44 rfl rfl)
theorem flX7_9 : eb_FL RX7 9 7 0 2 := ⟨RX7, TX7, 9, rfl, eb_inT inX7, by decide, rfl, rfl, by decide, Or.inl (eb_tb2 45 rfl rfl)⟩
theorem plX7_9 : eb_PL RX7 9 7 0 2 true := ⟨RX7, TX7, 9, rfl, eb_inT inX7, by decide, rfl, rfl, by decide, Or.inl (eb_tb2 45 rfl rfl), tyX7_ok, nmX7, rfl, fun _ => rfl⟩
theorem flX6_65 : eb_FL RX6 65 7 0 2 := ⟨RX7, TX7, 9, rfl, eb_inT inX7, by decide, rfl, rfl, by decide, Or.inr ⟨_, (eb_tn2 46 rfl rfl)⟩⟩
theorem flX10_165 : eb_FL RX10 165 7 0 2 := ⟨RX7, TX7, 9, rfl, eb_inT inX7, by decide, rfl, rfl, by decide, Or.inr ⟨_, (eb_tn2 47 rfl rfl)⟩⟩
theorem flX7_15 : eb_FL RX7 15 7 1 2 := ⟨RX7, TX7, 9, rfl, eb_inT inX7, by decide, rfl, rfl, by decide, Or.inl (eb_tb2 48 rfl rfl)⟩
theorem plX7_15 : eb_PL RX7 15 7 1 2 true := ⟨RX7, TX7, 9, rfl, eb_inT inX7, by decide, rfl, rfl, by decide, Or.inl (eb_tb2 48 rfl rfl), tyX7_ok, nmX7, rfl, fun _ => rfl⟩
theorem flX6_53 : eb_FL RX6 53 7 1 2 := ⟨RX7, TX7, 9, rfl, eb_inT inX7, by decide, rfl, rfl, by decide, Or.inr ⟨_, (eb_tn2 49 rfl rfl)⟩⟩
theorem flX10_168 : eb_FL RX10 168 7 1 2 := ⟨RX7, TX7, 9, rfl, eb_inT inX7, by decide, rfl, rfl, by decide, Or.inr ⟨_, (eb_tn2 50 rfl rfl)⟩⟩
theorem flX7_18 : eb_FL RX7 18 7 2 2 := ⟨RX7, TX7, 9, rfl, eb_inT inX7, by decide, rfl, rfl, by decide, Or.inl (eb_tb2 51 rfl rfl)⟩
theorem plX7_18 : eb_PL RX7 18 7 2 2 true := ⟨RX7, TX7, 9, rfl, eb_inT inX7, by decide, rfl, rfl, by decide, Or.inl (eb_tb2 51 rfl rfl), tyX7_ok, nmX7, rfl, fun _ => rfl⟩
theorem flX6_71 : eb_FL RX6 71 7 2 2 := ⟨RX7, TX7, 9, rfl, eb_inT inX7, by decide, rfl, rfl, by decide, Or.inr ⟨_, (eb_tn2 52 rfl rfl)⟩⟩
theorem flX10_171 : eb_FL RX10 171 7 2 2 := ⟨RX7, TX7, 9, rfl, eb_inT inX7, by decide, rfl, rfl, by decide, Or.inr ⟨_, (eb_tn2 53 rfl rfl)⟩⟩
theorem flX7_25 : eb_FL RX7 25 7 3 0 := ⟨RX7, TX7, 9, rfl, eb_inT inX7, by decide, rfl, rfl, by decide, Or.inl (eb_tb2 54 rfl rfl)⟩
theorem plX7_25 : eb_PL RX7 25 7 3 0 false := ⟨RX7, TX7, 9, rfl, eb_inT inX7, by decide, rfl, rfl, by decide, Or.inl (eb_tb2 54 rfl rfl), tyX7_ok, nmX7, rfl, fun h => by cases h⟩
theorem flX10_126 : eb_FL RX10 126 7 3 0 := ⟨RX7, TX7, 9, rfl, eb_inT inX7, by decide, rfl, rfl, by decide, Or.inr ⟨_, (eb_tn2 55 rfl rfl)⟩⟩
theorem plX10_126 : eb_PL RX10 126 7 3 0 false := ⟨RX7, TX7, 9, rfl, eb_inT inX7, by decide, rfl, rfl, by decide, Or.inr ⟨rfl, _, (eb_tn2 55 rfl rfl)⟩, tyX7_ok, nmX7, rfl, fun h => by cases h⟩
theorem flX6_110 : eb_FL RX6 110 7 3 0 := ⟨RX7, TX7, 9, rfl, eb_inT inX7, by decide, rfl, rfl, by decide, Or.inr ⟨_, (eb_tn2 56 rfl rfl)⟩⟩
theorem plX6_110 : eb_PL RX6 110 7 3 0 false := ⟨RX7, TX7, 9, rfl, eb_inT inX7, by decide, rfl, rfl, by decide, Or.inr ⟨rfl, _, (eb_tn2 56 rfl rfl)⟩, tyX7_ok, nmX7, rfl, fun h => by cases h⟩
theorem flX7_21 : eb_FL RX7 21 7 4 0 := ⟨RX7, TX7, 9, rfl, eb_inT inX7, by decide, rfl, rfl, by decide, Or.inl (eb_tb2 57 rfl rfl)⟩
theorem plX7_21 : eb_PL RX7 21 7 4 0 false := ⟨RX7, TX7, 9, rfl, eb_inT inX7, by decide, rfl, rfl, by decide, Or.inl (eb_tb2 57 rfl rfl), tyX7_ok, nmX7, rfl, fun h => by cases h⟩
theorem flX0_33 : eb_FL RX0 33 7 4 0 := ⟨RX7, TX7, 9, rfl, eb_inT inX7, by decide, rfl, rfl, by decide, Or.inr ⟨_, (eb_tn2 58 rfl rfl)⟩⟩
theorem plX0_33 : eb_PL RX0 33 7 4 0 false := ⟨RX7, TX7, 9, rfl, eb_inT inX7, by decide, rfl, rfl, by decide, Or.inr ⟨rfl, _, (eb_tn2 58 rfl rfl)⟩, tyX7_ok, nmX7, rfl, fun h => by cases h⟩
theorem flX6_116 : eb_FL RX6 116 7 4 0 := ⟨RX7, TX7, 9, rfl, eb_inT inX7, by decide, rfl, rfl, by decide, Or.inr ⟨_, (eb_tn2 59 rfl rfl)⟩⟩
theorem plX6_116 : eb_PL RX6 116 7 4 0 false := ⟨RX7, TX7, 9, rfl, eb_inT inX7, by decide, rfl, rfl, by decide, Or.inr ⟨rfl, _, (eb_tn2 59 rfl rfl)⟩, tyX7_ok, nmX7, rfl, fun h => by cases h⟩
theorem flX10_272 : eb_FL RX10 272 7 4 0 := ⟨RX7, TX7, 9, rfl, eb_inT inX7, by decide, rfl, rfl, by decide, Or.inr ⟨_, (eb_tn2 60 rfl rfl)⟩⟩
theorem plX10_272 : eb_PL RX10 272 7 4 0 false := ⟨RX7, TX7, 9, rfl, eb_inT inX7, by decide, rfl, rfl, by decide, Or.inr ⟨rfl, _, (eb_tn2 60 rfl rfl)⟩, tyX7_ok, nmX7, rfl, fun h => by cases h⟩
theorem flX7_28 : eb_FL RX7 28 7 5 0 := ⟨RX7, TX7, 9, rfl, eb_inT inX7, by decide, rfl, rfl, by decide, Or.inl (eb_tb2 61 rfl rfl)⟩
theorem plX7_28 : eb_PL RX7 28 7 5 0 false := ⟨RX7, TX7, 9, rfl, eb_inT inX7, by decide, rfl, rfl, by decide, Or.inl (eb_tb2 61 rfl rfl), tyX7_ok, nmX7, rfl, fun h => by cases h⟩
theorem flX0_22 : eb_FL RX0 22 7 5 0 := ⟨RX7, TX7, 9, rfl, eb_inT inX7, by decide, rfl, rfl, by decide, Or.inr ⟨_, (eb_tn2 62 rfl rfl)⟩⟩
theorem plX0_22 : eb_PL RX0 22 7 5 0 false := ⟨RX7, TX7, 9, rfl, eb_inT inX7, by decide, rfl, rfl, by decide, Or.inr ⟨rfl, _, (eb_tn2 62 rfl rfl)⟩, tyX7_ok, nmX7, rfl, fun h => by cases h⟩
theorem flX6_79 : eb_FL RX6 79 7 5 0 := ⟨RX7, TX7, 9, rfl, eb_inT inX7, by decide, rfl, rfl, by decide, Or.inr ⟨_, (eb_tn2 63 rfl rfl)⟩⟩
theorem plX6_79 : eb_PL RX6 79 7 5 0 false := ⟨RX7, TX7, 9, rfl, eb_inT inX7, by decide, rfl, rfl, by decide, Or.inr ⟨rfl, _, (eb_tn2 63 rfl rfl)⟩, tyX7_ok, nmX7, rfl, fun h => by cases h⟩
theorem flX10_208 : eb_FL RX10 208 7 5 0 := ⟨RX7, TX7, 9, rfl, eb_inT inX7, by decide, rfl, rfl, by decide, Or.inr ⟨_, (eb_tn2 64 rfl rfl)⟩⟩
theorem plX10_208 : eb_PL RX10 208 7 5 0 false := ⟨RX7, TX7, 9, rfl, eb_inT inX7, by decide, rfl, rfl, by decide, Or.inr ⟨rfl, _, (eb_tn2 64 rfl rfl)⟩, tyX7_ok, nmX7, rfl, fun h => by cases h⟩
theorem flX7_31 : eb_FL RX7 31 7 6 0 := ⟨RX7, TX7, 9, rfl, eb_inT inX7, by decide, rfl, rfl, by decide, Or.inl (eb_tb2 65 rfl rfl)⟩
theorem plX7_31 : eb_PL RX7 31 7 6 0 false := ⟨RX7, TX7, 9, rfl, eb_inT inX7, by decide, rfl, rfl, by decide, Or.inl (eb_tb2 65 rfl rfl), tyX7_ok, nmX7, rfl, fun h => by cases h⟩
theorem flX10_201 : eb_FL RX10 201 7 6 0 := ⟨RX7, TX7, 9, rfl, eb_inT inX7, by decide, rfl, rfl, by decide, Or.inr ⟨_, (eb_tn2 66 rfl rfl)⟩⟩
theorem plX10_201 : eb_PL RX10 201 7 6 0 false := ⟨RX7, TX7, 9, rfl, eb_inT inX7, by decide, rfl, rfl, by decide, Or.inr ⟨rfl, _, (eb_tn2 66 rfl rfl)⟩, tyX7_ok, nmX7, rfl, fun h => by cases h⟩
theorem flX6_126 : eb_FL RX6 126 7 6 0 := ⟨RX7, TX7, 9, rfl, eb_inT inX7, by decide, rfl, rfl, by decide, Or.inr ⟨_, (eb_tn2 67 rfl rfl)⟩⟩
theorem plX6_126 : eb_PL RX6 126 7 6 0 false := ⟨RX7, TX7, 9, rfl, eb_inT inX7, by decide, rfl, rfl, by decide, Or.inr ⟨rfl, _, (eb_tn2 67 rfl rfl)⟩, tyX7_ok, nmX7, rfl, fun h => by cases h⟩
theorem flX7_34 : eb_FL RX7 34 7 7 0 := ⟨RX7, TX7, 9, rfl, eb_inT inX7, by decide, rfl, rfl, by decide, Or.inl (eb_tb2 68 rfl rfl)⟩
theorem plX7_34 : eb_PL RX7 34 7 7 0 false := ⟨RX7, TX7, 9, rfl, eb_inT inX7, by decide, rfl, rfl, by decide, Or.inl (eb_tb2 68 rfl rfl), tyX7_ok, nmX7, rfl, fun h => by cases h⟩
theorem flX6_135 : eb_FL RX6 135 7 7 0 := ⟨RX7, TX7, 9, rfl, eb_inT inX7, by decide, rfl, rfl, by decide, Or.inr ⟨_, (eb_tn2 69 rfl rfl)⟩⟩
theorem plX6_135 : eb_PL RX6 135 7 7 0 false := ⟨RX7, TX7, 9, rfl, eb_inT inX7, by decide, rfl, rfl, by decide, Or.inr ⟨rfl, _, (eb_tn2 69 rfl rfl)⟩, tyX7_ok, nmX7, rfl, fun h => by cases h⟩
theorem flX10_416 : eb_FL RX10 416 7 7 0 := ⟨RX7, TX7, 9, rfl, eb_inT inX7, by decide, rfl, rfl, by decide, Or.inr ⟨_, (eb_tn2 70 rfl rfl)⟩⟩
theorem plX10_416 : eb_PL RX10 416 7 7 0 false := ⟨RX7, TX7, 9, rfl, eb_inT inX7, by decide, rfl, rfl, by decide, Or.inr ⟨rfl, _, (eb_tn2 70 rfl rfl)⟩, tyX7_ok, nmX7, rfl, fun h => by cases h⟩
theorem flX7_37 : eb_FL RX7 37 7 8 0 := ⟨RX7, TX7, 9, rfl, eb_inT inX7, by decide, rfl, rfl, by decide, Or.inl (eb_tb2 71 rfl rfl)⟩
theorem plX7_37 : eb_PL RX7 37 7 8 0 false := ⟨RX7, TX7, 9, rfl, eb_inT inX7, by decide, rfl, rfl, by decide, Or.inl (eb_tb2 71 rfl rfl), tyX7_ok, nmX7, rfl, fun h => by cases h⟩
theorem flX0_48 : eb_FL RX0 48 7 8 0 := ⟨RX7, TX7, 9, rfl, eb_inT inX7, by decide, rfl, rfl, by decide, Or.inr ⟨_, (eb_tn2 72 rfl rfl)⟩⟩
theorem plX0_48 : eb_PL RX0 48 7 8 0 false := ⟨RX7, TX7, 9, rfl, eb_inT inX7, by decide, rfl, rfl, by decide, Or.inr ⟨rfl, _, (eb_tn2 72 rfl rfl)⟩, tyX7_ok, nmX7, rfl, fun h => by cases h⟩
theorem flX6_82 : eb_FL RX6 82 7 8 0 := ⟨RX7, TX7, 9, rfl, eb_inT inX7, by decide, rfl, rfl, by decide, Or.inr ⟨_, (eb_tn2 73 rfl rfl)⟩⟩
theorem plX6_82 : eb_PL RX6 82 7 8 0 false := ⟨RX7, TX7, 9, rfl, eb_inT inX7, by decide, rfl, rfl, by decide, Or.inr ⟨rfl, _, (eb_tn2 73 rfl rfl)⟩, tyX7_ok, nmX7, rfl, fun h => by cases h⟩
theorem flX10_266 : eb_FL RX10 266 7 8 0 := ⟨RX7, TX7, 9, rfl, eb_inT inX7, by decide, rfl, rfl, by decide, Or.inr ⟨_, (eb_tn2 74 rfl rfl)⟩⟩
theorem plX10_266 : eb_PL RX10 266 7 8 0 false := ⟨RX7, TX7, 9, rfl, eb_inT inX7, by decide, rfl, rfl, by decide, Or.inr ⟨rfl, _, (eb_tn2 74 rfl rfl)⟩, tyX7_ok, nmX7, rfl, fun h => by cases h⟩
theorem clX10_43 : Cond.classLink RX10 43 RX2 ∈ eb_tbl := (eb_tb2 94 rfl rfl)
theorem nlX10_43 : eb_NL RX10 43 2 := ⟨RX2, TX2, 3, rfl, eb_inT inX2, rfl, by decide, tyX2_ok, (eb_tb2 94 rfl rfl), (eb_tb2 95 rfl rfl), (eb_tb1 13 rfl rfl), by decide⟩
theorem mlX10_45 : eb_ML RX10 45 yX2_init := Or.inl (eb_tb2 96 rfl rfl)
theorem olX2_1 : Cond.methodLink RX2 1 Lib.objectInit ∈ eb_tbl := (eb_tb2 99 rfl rfl)
theorem clX2_9 : Cond.classLink RX2 9 RX7 ∈ eb_tbl := (eb_tb2 100 rfl rfl)
theorem nlX2_9 : eb_NL RX2 9 7 := ⟨RX7, TX7, 9, rfl, eb_inT inX7, rfl, by decide, tyX7_ok, (eb_tb2 100 rfl rfl), (eb_tb2 40 rfl rfl), (eb_tb1 12 rfl rfl), by decide⟩
theorem mlX2_15 : eb_ML RX2 15 yX7_init := Or.inr ⟨_, (eb_tn2 102 rfl rfl)⟩
theorem flX2_11 : eb_FL RX2 11 2 0 2 := ⟨RX2, TX2, 3, rfl, eb_inT inX2, by decide, rfl, rfl, by decide, Or.inl (eb_tb2 103 rfl rfl)⟩
theorem plX2_11 : eb_PL RX2 11 2 0 2 true := ⟨RX2, TX2, 3, rfl, eb_inT inX2, by decide, rfl, rfl, by decide, Or.inl (eb_tb2 103 rfl rfl), tyX2_ok, nmX2, rfl, fun _ => rfl⟩
theorem flX2_20 : eb_FL RX2 20 2 1 0 := ⟨RX2, TX2, 3, rfl, eb_inT inX2, by decide, rfl, rfl, by decide, Or.inl (eb_tb2 104 rfl rfl)⟩
theorem plX2_20 : eb_PL RX2 20 2 1 0 false := ⟨RX2, TX2, 3, rfl, eb_inT inX2, by decide, rfl, rfl, by decide, Or.inl (eb_tb2 104 rfl rfl), tyX2_ok, nmX2, rfl, fun h => by cases h⟩
theorem flX2_16 : eb_FL RX2 16 2 2 0 := ⟨RX2, TX2, 3, rfl, eb_inT inX2, by decide, rfl, rfl, by decide, Or.inl (eb_tb2 105 rfl rfl)⟩
theorem plX2_16 : eb_PL RX2 16 2 2 0 false := ⟨RX2, TX2, 3, rfl, eb_inT inX2, by decide, rfl, rfl, by decide, Or.inl (eb_tb2 105 rfl rfl), tyX2_ok, nmX2, rfl, fun h => by cases h⟩
theorem flX10_256 : eb_FL RX10 256 2 2 0 := ⟨RX2, TX2, 3, rfl, eb_inT inX2, by decide, rfl, rfl, by decide, Or.inr ⟨_, (eb_tn2 106 rfl rfl)⟩⟩
theorem plX10_256 : eb_PL RX10 256 2 2 0 false := ⟨RX2, TX2, 3, rfl, eb_inT inX2, by decide, rfl, rfl, by decide, Or.inr ⟨rfl, _, (eb_tn2 106 rfl rfl)⟩, tyX2_ok, nmX2, rfl, fun h => by cases h⟩
theorem clX10_58 : Cond.classLink RX10 58 RX8 ∈ eb_tbl := (eb_tb2 114 rfl rfl)
theorem nlX10_58 : eb_NL RX10 58 8 := ⟨RX8, TX8, 4, rfl, eb_inT inX8, rfl, by decide, tyX8_ok, (eb_tb2 114 rfl rfl), (eb_tb2 115 rfl rfl), (eb_tb1 14 rfl rfl), by decide⟩
theorem mlX10_60 : eb_ML RX10 60 yX8_init := Or.inl (eb_tb2 116 rfl rfl)
theorem olX8_1 : Cond.methodLink RX8 1 Lib.objectInit ∈ eb_tbl := (eb_tb2 119 rfl rfl)
theorem xmX8_7 : Cond.methodLink RX8 7 Lib.Math.max.name ∈ eb_tbl := (eb_tb2 120 rfl rfl)
theorem flX8_13 : eb_FL RX8 13 8 0 2 := ⟨RX8, TX8, 4, rfl, eb_inT inX8, by decide, rfl, rfl, by decide, Or.inl (eb_tb2 121 rfl rfl)⟩
theorem plX8_13 : eb_PL RX8 13 8 0 2 true := ⟨RX8, TX8, 4, rfl, eb_inT inX8, by decide, rfl, rfl, by decide, Or.inl (eb_tb2 121 rfl rfl), tyX8_ok, nmX8, rfl, fun _ => rfl⟩
theorem flX10_363 : eb_FL RX10 363 8 0 2 := ⟨RX8, TX8, 4, rfl, eb_inT inX8, by decide, rfl, rfl, by decide, Or.inr ⟨_, (eb_tn2 122 rfl rfl)⟩⟩
theorem flX8_19 : eb_FL RX8 19 8 1 2 := ⟨RX8, TX8, 4, rfl, eb_inT inX8, by decide, rfl, rfl, by decide, Or.inl (eb_tb2 123 rfl rfl)⟩
theorem plX8_19 : eb_PL RX8 19 8 1 2 true := ⟨RX8, TX8, 4, rfl, eb_inT inX8, by decide, rfl, rfl, by decide, Or.inl (eb_tb2 123 rfl rfl), tyX8_ok, nmX8, rfl, fun _ => rfl⟩
theorem flX10_366 : eb_FL RX10 366 8 1 2 := ⟨RX8, TX8, 4, rfl, eb_inT inX8, by decide, rfl, rfl, by decide, Or.inr ⟨_, (eb_tn2 124 rfl rfl)⟩⟩
theorem flX8_22 : eb_FL RX8 22 8 2 2 := ⟨RX8, TX8, 4, rfl, eb_inT inX8, by decide, rfl, rfl, by decide, Or.inl (eb_tb2 125 rfl rfl)⟩
theorem plX8_22 : eb_PL RX8 22 8 2 2 true := ⟨RX8, TX8, 4, rfl, eb_inT inX8, by decide, rfl, rfl, by decide, Or.inl (eb_tb2 125 rfl rfl), tyX8_ok, nmX8, rfl, fun _ => rfl⟩
theorem flX10_369 : eb_FL RX10 369 8 2 2 := ⟨RX8, TX8, 4, rfl, eb_inT inX8, by decide, rfl, rfl, by decide, Or.inr ⟨_, (eb_tn2 126 rfl rfl)⟩⟩
theorem flX8_25 : eb_FL RX8 25 8 3 0 := ⟨RX8, TX8, 4, rfl, eb_inT inX8, by decide, rfl, rfl, by decide, Or.inl (eb_tb2 127 rfl rfl)⟩
theorem plX8_25 : eb_PL RX8 25 8 3 0 false := ⟨RX8, TX8, 4, rfl, eb_inT inX8, by decide, rfl, rfl, by decide, Or.inl (eb_tb2 127 rfl rfl), tyX8_ok, nmX8, rfl, fun h => by cases h⟩
theorem flX10_351 : eb_FL RX10 351 8 3 0 := ⟨RX8, TX8, 4, rfl, eb_inT inX8, by decide, rfl, rfl, by decide, Or.inr ⟨_, (eb_tn2 128 rfl rfl)⟩⟩
theorem plX10_351 : eb_PL RX10 351 8 3 0 false := ⟨RX8, TX8, 4, rfl, eb_inT inX8, by decide, rfl, rfl, by decide, Or.inr ⟨rfl, _, (eb_tn2 128 rfl rfl)⟩, tyX8_ok, nmX8, rfl, fun h => by cases h⟩
theorem clX10_70 : Cond.classLink RX10 70 RX1 ∈ eb_tbl := (eb_tb2 138 rfl rfl)
theorem nlX10_70 : eb_NL RX10 70 1 := ⟨RX1, TX1, 1, rfl, eb_inT inX1, rfl, by decide, tyX1_ok, (eb_tb2 138 rfl rfl), (eb_tb2 139 rfl rfl), (eb_tb1 15 rfl rfl), by decide⟩
theorem mlX10_72 : eb_ML RX10 72 yX1_init := Or.inr ⟨_, (eb_tn2 140 rfl rfl)⟩
theorem olX1_1 : Cond.methodLink RX1 1 Lib.objectInit ∈ eb_tbl := (eb_tb2 143 rfl rfl)
theorem flX1_7 : eb_FL RX1 7 1 0 0 := ⟨RX1, TX1, 1, rfl, eb_inT inX1, by decide, rfl, rfl, by decide, Or.inl (eb_tb2 144 rfl rfl)⟩
theorem plX1_7 : eb_PL RX1 7 1 0 0 false := ⟨RX1, TX1, 1, rfl, eb_inT inX1, by decide, rfl, rfl, by decide, Or.inl (eb_tb2 144 rfl rfl), tyX1_ok, nmX1, rfl, fun h => by cases h⟩
theorem clX10_77 : Cond.classLink RX10 77 RX0 ∈ eb_tbl := (eb_tb2 148 rfl rfl)
theorem nlX10_77 : eb_NL RX10 77 0 := ⟨RX0, TX0, 3, rfl, eb_inT inX0, rfl, by decide, tyX0_ok, (eb_tb2 148 rfl rfl), (eb_tb2 149 rfl rfl), (eb_tb1 16 rfl rfl), by decide⟩
theorem mlX10_79 : eb_ML RX10 79 yX0_init := Or.inr ⟨_, (eb_tn2 150 rfl rfl)⟩
theorem olX0_3 : Cond.methodLink RX0 3 Lib.objectInit ∈ eb_tbl := (eb_tb2 153 rfl rfl)
theorem flX0_11 : eb_FL RX0 11 0 0 2 := ⟨RX0, TX0, 3, rfl, eb_inT inX0, by decide, rfl, rfl, by decide, Or.inl (eb_tb2 154 rfl rfl)⟩
theorem plX0_11 : eb_PL RX0 11 0 0 2 false := ⟨RX0, TX0, 3, rfl, eb_inT inX0, by decide, rfl, rfl, by decide, Or.inl (eb_tb2 154 rfl rfl), tyX0_ok, nmX0, rfl, fun h => by cases h⟩
theorem flX0_15 : eb_FL RX0 15 0 1 2 := ⟨RX0, TX0, 3, rfl, eb_inT inX0, by decide, rfl, rfl, by decide, Or.inl (eb_tb2 155 rfl rfl)⟩
theorem plX0_15 : eb_PL RX0 15 0 1 2 false := ⟨RX0, TX0, 3, rfl, eb_inT inX0, by decide, rfl, rfl, by decide, Or.inl (eb_tb2 155 rfl rfl), tyX0_ok, nmX0, rfl, fun h => by cases h⟩
theorem flX0_18 : eb_FL RX0 18 0 2 0 := ⟨RX0, TX0, 3, rfl, eb_inT inX0, by decide, rfl, rfl, by decide, Or.inl (eb_tb2 156 rfl rfl)⟩
theorem plX0_18 : eb_PL RX0 18 0 2 0 false := ⟨RX0, TX0, 3, rfl, eb_inT inX0, by decide, rfl, rfl, by decide, Or.inl (eb_tb2 156 rfl rfl), tyX0_ok, nmX0, rfl, fun h => by cases h⟩
theorem flX10_391 : eb_FL RX10 391 0 2 0 := ⟨RX0, TX0, 3, rfl, eb_inT inX0, by decide, rfl, rfl, by decide, Or.inr ⟨_, (eb_tn2 157 rfl rfl)⟩⟩
theorem plX10_391 : eb_PL RX10 391 0 2 0 false := ⟨RX0, TX0, 3, rfl, eb_inT inX0, by decide, rfl, rfl, by decide, Or.inr ⟨rfl, _, (eb_tn2 157 rfl rfl)⟩, tyX0_ok, nmX0, rfl, fun h => by cases h⟩
theorem clX10_84 : Cond.classLink RX10 84 RX3 ∈ eb_tbl := (eb_tb2 165 rfl rfl)
theorem nlX10_84 : eb_NL RX10 84 3 := ⟨RX3, TX3, 2, rfl, eb_inT inX3, rfl, by decide, tyX3_ok, (eb_tb2 165 rfl rfl), (eb_tb2 166 rfl rfl), (eb_tb1 17 rfl rfl), by decide⟩
theorem mlX10_86 : eb_ML RX10 86 yX3_init := Or.inr ⟨_, (eb_tn2 167 rfl rfl)⟩
theorem olX3_3 : Cond.methodLink RX3 3 Lib.objectInit ∈ eb_tbl := (eb_tb2 170 rfl rfl)
theorem flX3_9 : eb_FL RX3 9 3 0 2 := ⟨RX3, TX3, 2, rfl, eb_inT inX3, by decide, rfl, rfl, by decide, Or.inl (eb_tb2 171 rfl rfl)⟩
theorem plX3_9 : eb_PL RX3 9 3 0 2 true := ⟨RX3, TX3, 2, rfl, eb_inT inX3, by decide, rfl, rfl, by decide, Or.inl (eb_tb2 171 rfl rfl), tyX3_ok, nmX3, rfl, fun _ => rfl⟩
theorem flX3_15 : eb_FL RX3 15 3 1 2 := ⟨RX3, TX3, 2, rfl, eb_inT inX3, by decide, rfl, rfl, by decide, Or.inl (eb_tb2 172 rfl rfl)⟩
theorem plX3_15 : eb_PL RX3 15 3 1 2 true := ⟨RX3, TX3, 2, rfl, eb_inT inX3, by decide, rfl, rfl, by decide, Or.inl (eb_tb2 172 rfl rfl), tyX3_ok, nmX3, rfl, fun _ => rfl⟩
theorem flX10_10 : eb_FL RX10 10 10 0 2 := ⟨RX10, TX10, 18, rfl, eb_inT inX10, by decide, rfl, rfl, by decide, Or.inl (eb_tb2 178 rfl rfl)⟩
theorem plX10_10 : eb_PL RX10 10 10 0 2 true := ⟨RX10, TX10, 18, rfl, eb_inT inX10, by decide, rfl, rfl, by decide, Or.inl (eb_tb2 178 rfl rfl), tyX10_ok, nmX10, rfl, fun _ => rfl⟩
theorem flX10_19 : eb_FL RX10 19 10 1 2 := ⟨RX10, TX10, 18, rfl, eb_inT inX10, by decide, rfl, rfl, by decide, Or.inl (eb_tb2 179 rfl rfl)⟩
theorem plX10_19 : eb_PL RX10 19 10 1 2 true := ⟨RX10, TX10, 18, rfl, eb_inT inX10, by decide, rfl, rfl, by decide, Or.inl (eb_tb2 179 rfl rfl), tyX10_ok, nmX10, rfl, fun _ => rfl⟩
theorem flX10_26 : eb_FL RX10 26 10 2 2 := ⟨RX10, TX10, 18, rfl, eb_inT inX10, by decide, rfl, rfl, by decide, Or.inl (eb_tb2 180 rfl rfl)⟩
theorem plX10_26 : eb_PL RX10 26 10 2 2 true := ⟨RX10, TX10, 18, rfl, eb_inT inX10, by decide, rfl, rfl, by decide, Or.inl (eb_tb2 180 rfl rfl), tyX10_ok, nmX10, rfl, fun _ => rfl⟩
theorem flX10_33 : eb_FL RX10 33 10 3 2 := ⟨RX10, TX10, 18, rfl, eb_inT inX10, by decide, rfl, rfl, by decide, Or.inl (eb_tb2 181 rfl rfl)⟩
theorem plX10_33 : eb_PL RX10 33 10 3 2 true := ⟨RX10, TX10, 18, rfl, eb_inT inX10, by decide, rfl, rfl, by decide, Or.inl (eb_tb2 181 rfl rfl), tyX10_ok, nmX10, rfl, fun _ => rfl⟩
theorem flX10_37 : eb_FL RX10 37 10 4 2 := ⟨RX10, TX10, 18, rfl, eb_inT inX10, by decide, rfl, rfl, by decide, Or.inl (eb_tb2 182 rfl rfl)⟩
theorem plX10_37 : eb_PL RX10 37 10 4 2 true := ⟨RX10, TX10, 18, rfl, eb_inT inX10, by decide, rfl, rfl, by decide, Or.inl (eb_tb2 182 rfl rfl), tyX10_ok, nmX10, rfl, fun _ => rfl⟩
theorem flX10_40 : eb_FL RX10 40 10 5 2 := ⟨RX10, TX10, 18, rfl, eb_inT inX10, by decide, rfl, rfl, by decide, Or.inl (eb_tb2 183 rfl rfl)⟩
theorem plX10_40 : eb_PL RX10 40 10 5 2 true := ⟨RX10, TX10, 18, rfl, eb_inT inX10, by decide, rfl, rfl, by decide, Or.inl (eb_tb2 183 rfl rfl), tyX10_ok, nmX10, rfl, fun _ => rfl⟩
theorem flX10_46 : eb_FL RX10 46 10 6 2 := ⟨RX10, TX10, 18, rfl, eb_inT inX10, by decide, rfl, rfl, by decide, Or.inl (eb_tb2 184 rfl rfl)⟩
theorem plX10_46 : eb_PL RX10 46 10 6 2 true := ⟨RX10, TX10, 18, rfl, eb_inT inX10, by decide, rfl, rfl, by decide, Or.inl (eb_tb2 184 rfl rfl), tyX10_ok, nmX10, rfl, fun _ => rfl⟩
theorem flX10_50 : eb_FL RX10 50 10 7 2 := ⟨RX10, TX10, 18, rfl, eb_inT inX10, by decide, rfl, rfl, by decide, Or.inl (eb_tb2 185 rfl rfl)⟩
theorem plX10_50 : eb_PL RX10 50 10 7 2 true := ⟨RX10, TX10, 18, rfl, eb_inT inX10, by decide, rfl, rfl, by decide, Or.inl (eb_tb2 185 rfl rfl), tyX10_ok, nmX10, rfl, fun _ => rfl⟩
theorem flX10_54 : eb_FL RX10 54 10 8 2 := ⟨RX10, TX10, 18, rfl, eb_inT inX10, by decide, rfl, rfl, by decide, Or.inl (eb_tb2 186 rfl rfl)⟩
theorem plX10_54 : eb_PL RX10 54 10 8 2 true := ⟨RX10, TX10, 18, rfl, eb_inT inX10, by decide, rfl, rfl, by decide, Or.inl (eb_tb2 186 rfl rfl), tyX10_ok, nmX10, rfl, fun _ => rfl⟩
theorem flX10_63 : eb_FL RX10 63 10 9 2 := ⟨RX10, TX10, 18, rfl, eb_inT inX10, by decide, rfl, rfl, by decide, Or.inl (eb_tb2 187 rfl rfl)⟩
theorem plX10_63 : eb_PL RX10 63 10 9 2 true := ⟨RX10, TX10, 18, rfl, eb_inT inX10, by decide, rfl, rfl, by decide, Or.inl (eb_tb2 187 rfl rfl), tyX10_ok, nmX10, rfl, fun _ => rfl⟩
theorem flX10_67 : eb_FL RX10 67 10 10 2 := ⟨RX10, TX10, 18, rfl, eb_inT inX10, by decide, rfl, rfl, by decide, Or.inl (eb_tb2 188 rfl rfl)⟩
theorem plX10_67 : eb_PL RX10 67 10 10 2 true := ⟨RX10, TX10, 18, rfl, eb_inT inX10, by decide, rfl, rfl, by decide, Or.inl (eb_tb2 188 rfl rfl), tyX10_ok, nmX10, rfl, fun _ => rfl⟩
theorem flX10_73 : eb_FL RX10 73 10 11 2 := ⟨RX10, TX10, 18, rfl, eb_inT inX10, by decide, rfl, rfl, by decide, Or.inl (eb_tb2 189 rfl rfl)⟩
theorem plX10_73 : eb_PL RX10 73 10 11 2 true := ⟨RX10, TX10, 18, rfl, eb_inT inX10, by decide, rfl, rfl, by decide, Or.inl (eb_tb2 189 rfl rfl), tyX10_ok, nmX10, rfl, fun _ => rfl⟩
theorem flX10_80 : eb_FL RX10 80 10 12 2 := ⟨RX10, TX10, 18, rfl, eb_inT inX10, by decide, rfl, rfl, by decide, Or.inl (eb_tb2 190 rfl rfl)⟩
theorem plX10_80 : eb_PL RX10 80 10 12 2 true := ⟨RX10, TX10, 18, rfl, eb_inT inX10, by decide, rfl, rfl, by decide, Or.inl (eb_tb2 190 rfl rfl), tyX10_ok, nmX10, rfl, fun _ => rfl⟩
theorem flX10_87 : eb_FL RX10 87 10 13 2 := ⟨RX10, TX10, 18, rfl, eb_inT inX10, by decide, rfl, rfl, by decide, Or.inl (eb_tb2 191 rfl rfl)⟩
theorem plX10_87 : eb_PL RX10 87 10 13 2 true := ⟨RX10, TX10, 18, rfl, eb_inT inX10, by decide, rfl, rfl, by decide, Or.inl (eb_tb2 191 rfl rfl), tyX10_ok, nmX10, rfl, fun _ => rfl⟩
theorem flX10_91 : eb_FL RX10 91 10 14 2 := ⟨RX10, TX10, 18, rfl, eb_inT inX10, by decide, rfl, rfl, by decide, Or.inl (eb_tb2 192 rfl rfl)⟩
theorem plX10_91 : eb_PL RX10 91 10 14 2 true := ⟨RX10, TX10, 18, rfl, eb_inT inX10, by decide, rfl, rfl, by decide, Or.inl (eb_tb2 192 rfl rfl), tyX10_ok, nmX10, rfl, fun _ => rfl⟩
theorem flX10_95 : eb_FL RX10 95 10 15 2 := ⟨RX10, TX10, 18, rfl, eb_inT inX10, by decide, rfl, rfl, by decide, Or.inl (eb_tb2 193 rfl rfl)⟩
theorem plX10_95 : eb_PL RX10 95 10 15 2 true := ⟨RX10, TX10, 18, rfl, eb_inT inX10, by decide, rfl, rfl, by decide, Or.inl (eb_tb2 193 rfl rfl), tyX10_ok, nmX10, rfl, fun _ => rfl⟩
theorem flX10_98 : eb_FL RX10 98 10 16 2 := ⟨RX10, TX10, 18, rfl, eb_inT inX10, by decide, rfl, rfl, by decide, Or.inl (eb_tb2 194 rfl rfl)⟩
theorem plX10_98 : eb_PL RX10 98 10 16 2 true := ⟨RX10, TX10, 18, rfl, eb_inT inX10, by decide, rfl, rfl, by decide, Or.inl (eb_tb2 194 rfl rfl), tyX10_ok, nmX10, rfl, fun _ => rfl⟩
theorem flX10_101 : eb_FL RX10 101 10 17 2 := ⟨RX10, TX10, 18, rfl, eb_inT inX10, by decide, rfl, rfl, by decide, Or.inl (eb_tb2 195 rfl rfl)⟩
theorem plX10_101 : eb_PL RX10 101 10 17 2 true := ⟨RX10, TX10, 18, rfl, eb_inT inX10, by decide, rfl, rfl, by decide, Or.inl (eb_tb2 195 rfl rfl), tyX10_ok, nmX10, rfl, fun _ => rfl⟩
theorem mlL_27 : eb_ML RL 27 yX10_sign := Or.inl (eb_tb2 233 rfl rfl)
theorem mlX10_104 : eb_ML RX10 104 yX9_takeFour := Or.inl (eb_tb2 237 rfl rfl)
theorem mlL_31 : eb_ML RL 31 yX10_end := Or.inl (eb_tb3 1 rfl rfl)
theorem mlX10_112 : eb_ML RX10 112 yX9_cut := Or.inl (eb_tb3 5 rfl rfl)
theorem mlL_36 : eb_ML RL 36 yX10_thoughts := Or.inl (eb_tb3 9 rfl rfl)
theorem mlX10_115 : eb_ML RX10 115 yX9_thoughtsFault := Or.inl (eb_tb3 13 rfl rfl)
theorem mlX9_28 : eb_ML RX9 28 yX9_faultOf := Or.inl (eb_tb3 18 rfl rfl)
theorem mlX9_34 : eb_ML RX9 34 yJ0_length_8abf5 := Or.inl (eb_tb3 22 rfl rfl)
theorem mlX9_54 : eb_ML RX9 54 yJ0_charAt_5068e := Or.inl (eb_tb3 23 rfl rfl)
theorem mlJ0_495 : eb_ML RJ0 495 yJ1_charAt_3b067 := Or.inl (eb_tb3 27 rfl rfl)
theorem mlJ1_9 : eb_ML RJ1 9 yJ0_checkIndex_df160 := Or.inl (eb_tb3 30 rfl rfl)
theorem mlJ0_1059 : eb_ML RJ0 1059 yJ3_checkIndex_8e157 := Or.inl (eb_tb3 33 rfl rfl)
theorem mlJ0_498 : eb_ML RJ0 498 yJ2_charAt_3b067 := Or.inl (eb_tb3 36 rfl rfl)
theorem mlJ2_67 : eb_ML RJ2 67 yJ2_checkIndex_2214a := Or.inl (eb_tb3 39 rfl rfl)
theorem mlJ2_414 : eb_ML RJ2 414 yJ0_checkIndex_df160 := Or.inl (eb_tb3 42 rfl rfl)
theorem mlX9_58 : eb_ML RX9 58 yX9_stands := Or.inl (eb_tb3 43 rfl rfl)
theorem mlX9_74 : eb_ML RX9 74 yX10_within := Or.inr ⟨_, (eb_tn3 46 rfl rfl)⟩
theorem mlX10_119 : eb_ML RX10 119 yX6_takePrices := Or.inl (eb_tb3 47 rfl rfl)
theorem mlX6_41 : eb_ML RX6 41 yX9_digit := Or.inl (eb_tb3 51 rfl rfl)
theorem mlX9_19 : eb_ML RX9 19 yX9_at := Or.inl (eb_tb3 55 rfl rfl)
theorem mlX10_123 : eb_ML RX10 123 yX9_empty := Or.inl (eb_tb3 59 rfl rfl)
theorem mlL_41 : eb_ML RL 41 yX10_brothers := Or.inl (eb_tb3 63 rfl rfl)
theorem mlX10_129 : eb_ML RX10 129 yX9_brothersFault := Or.inl (eb_tb3 67 rfl rfl)
theorem xmX9_40 : Cond.methodLink RX9 40 Lib.Math.min.name ∈ eb_tbl := (eb_tb3 72 rfl rfl)
theorem mlX10_133 : eb_ML RX10 133 yX7_takeBrothers := Or.inl (eb_tb3 73 rfl rfl)
theorem mlX7_45 : eb_ML RX7 45 yX9_digit := Or.inl (eb_tb3 77 rfl rfl)
theorem mlX7_49 : eb_ML RX7 49 yX9_signed := Or.inl (eb_tb3 78 rfl rfl)
theorem mlX9_23 : eb_ML RX9 23 yX9_digit := Or.inl (eb_tb3 82 rfl rfl)
theorem mlX10_136 : eb_ML RX10 136 yX2_empty := Or.inl (eb_tb3 83 rfl rfl)
theorem mlL_45 : eb_ML RL 45 yX10_winds := Or.inl (eb_tb3 87 rfl rfl)
theorem mlX10_137 : eb_ML RX10 137 yX9_windsFault := Or.inl (eb_tb3 91 rfl rfl)
theorem mlX10_140 : eb_ML RX10 140 yX6_takeWinds := Or.inl (eb_tb3 96 rfl rfl)
theorem mlX6_50 : eb_ML RX6 50 yX9_signed := Or.inl (eb_tb3 100 rfl rfl)
theorem mlL_49 : eb_ML RL 49 yX10_rule := Or.inl (eb_tb3 101 rfl rfl)
theorem mlX10_147 : eb_ML RX10 147 yX5_read := Or.inl (eb_tb3 105 rfl rfl)
theorem mlX5_41 : eb_ML RX5 41 yX9_at := Or.inl (eb_tb3 109 rfl rfl)
theorem mlX10_152 : eb_ML RX10 152 yX6_changeRules := Or.inl (eb_tb3 110 rfl rfl)
theorem mlL_66 : eb_ML RL 66 yX10_sheet := Or.inl (eb_tb3 114 rfl rfl)
theorem mlX10_158 : eb_ML RX10 158 yX10_within := Or.inl (eb_tb3 118 rfl rfl)
theorem mlX10_181 : eb_ML RX10 181 yX7_takeSheet := Or.inl (eb_tb3 119 rfl rfl)
theorem mlX7_52 : eb_ML RX7 52 yX10_putTo := Or.inr ⟨_, (eb_tn3 123 rfl rfl)⟩
theorem mlX10_185 : eb_ML RX10 185 yX7_gravityOfAll := Or.inl (eb_tb3 126 rfl rfl)
theorem mlL_71 : eb_ML RL 71 yX10_hours := Or.inl (eb_tb3 130 rfl rfl)
theorem mlX10_188 : eb_ML RX10 188 yX7_copy := Or.inl (eb_tb3 134 rfl rfl)
theorem mlX10_192 : eb_ML RX10 192 yX6_begin := Or.inl (eb_tb3 138 rfl rfl)
theorem mlX10_195 : eb_ML RX10 195 yX6_letHoursGo := Or.inl (eb_tb3 142 rfl rfl)
theorem mlX6_113 : eb_ML RX6 113 yX6_windAt := Or.inl (eb_tb3 146 rfl rfl)
theorem mlX6_96 : eb_ML RX6 96 yX6_ballastInHours := Or.inl (eb_tb3 150 rfl rfl)
theorem xmX6_74 : Cond.methodLink RX6 74 Lib.Math.abs.name ∈ eb_tbl := (eb_tb3 154 rfl rfl)
theorem mlX6_89 : eb_ML RX6 89 yX10_putTo := Or.inr ⟨_, (eb_tn3 157 rfl rfl)⟩
theorem mlX6_58 : eb_ML RX6 58 yX7_othersLike := Or.inl (eb_tb3 158 rfl rfl)
theorem mlX6_61 : eb_ML RX6 61 yX6_weightAs := Or.inl (eb_tb3 162 rfl rfl)
theorem mlX6_68 : eb_ML RX6 68 yX6_priceOf := Or.inl (eb_tb3 166 rfl rfl)
theorem mlX6_85 : eb_ML RX6 85 yX5_valueBy := Or.inl (eb_tb3 170 rfl rfl)
theorem mlX5_60 : eb_ML RX5 60 yX5_joined := Or.inl (eb_tb3 174 rfl rfl)
theorem mlX6_119 : eb_ML RX6 119 yX10_pullOf := Or.inr ⟨_, (eb_tn3 177 rfl rfl)⟩
theorem mlX10_424 : eb_ML RX10 424 yX10_putTo := Or.inl (eb_tb3 180 rfl rfl)
theorem mlX6_122 : eb_ML RX6 122 yX10_leanBy := Or.inr ⟨_, (eb_tn3 181 rfl rfl)⟩
theorem xmX10_287 : Cond.methodLink RX10 287 Lib.Math.abs.name ∈ eb_tbl := (eb_tb3 184 rfl rfl)
theorem xmX10_427 : Cond.methodLink RX10 427 Lib.Math.min.name ∈ eb_tbl := (eb_tb3 185 rfl rfl)
theorem xmX6_129 : Cond.methodLink RX6 129 Lib.Math.max.name ∈ eb_tbl := (eb_tb3 186 rfl rfl)
theorem xmX6_132 : Cond.methodLink RX6 132 Lib.Math.min.name ∈ eb_tbl := (eb_tb3 187 rfl rfl)
theorem mlX10_198 : eb_ML RX10 198 yX2_add := Or.inl (eb_tb3 188 rfl rfl)
theorem mlX2_23 : eb_ML RX2 23 yX7_copy := Or.inl (eb_tb3 192 rfl rfl)
theorem mlX10_204 : eb_ML RX10 204 yX4_tell_ := Or.inl (eb_tb3 193 rfl rfl)
theorem mlX4_17 : eb_ML RX4 17 yX4_empty := Or.inl (eb_tb3 197 rfl rfl)
theorem mlX4_20 : eb_ML RX4 20 yX4_add := Or.inl (eb_tb3 201 rfl rfl)
theorem mlL_75 : eb_ML RL 75 yX10_tells := Or.inl (eb_tb3 205 rfl rfl)
theorem mlX10_211 : eb_ML RX10 211 yX7_tell := Or.inl (eb_tb3 209 rfl rfl)
theorem mlX7_56 : eb_ML RX7 56 yX7_has := Or.inl (eb_tb3 213 rfl rfl)
theorem mlX7_60 : eb_ML RX7 60 yX10_within := Or.inr ⟨_, (eb_tn3 217 rfl rfl)⟩
theorem mlX10_214 : eb_ML RX10 214 yX10_remembered := Or.inl (eb_tb3 218 rfl rfl)
theorem mlL_79 : eb_ML RL 79 yX10_moves := Or.inl (eb_tb3 222 rfl rfl)
theorem mlX10_217 : eb_ML RX10 217 yX7_move := Or.inl (eb_tb3 226 rfl rfl)
theorem xmX7_64 : Cond.methodLink RX7 64 Lib.Math.abs.name ∈ eb_tbl := (eb_tb3 230 rfl rfl)
theorem mlL_83 : eb_ML RL 83 yX10_eases := Or.inl (eb_tb3 231 rfl rfl)
theorem mlX10_220 : eb_ML RX10 220 yX7_ease := Or.inl (eb_tb3 235 rfl rfl)
theorem mlL_87 : eb_ML RL 87 yX10_preaches := Or.inl (eb_tb3 239 rfl rfl)
theorem mlX10_223 : eb_ML RX10 223 yX7_preach := Or.inl (eb_tb4 3 rfl rfl)
theorem xmX7_69 : Cond.methodLink RX7 69 Lib.Math.min.name ∈ eb_tbl := (eb_tb4 7 rfl rfl)
theorem mlL_91 : eb_ML RL 91 yX10_sails := Or.inl (eb_tb4 8 rfl rfl)
theorem mlX10_226 : eb_ML RX10 226 yX7_setSail := Or.inl (eb_tb4 12 rfl rfl)
theorem mlL_95 : eb_ML RL 95 yX10_watch := Or.inl (eb_tb4 16 rfl rfl)
theorem mlX10_229 : eb_ML RX10 229 yX9_watchFault := Or.inl (eb_tb4 20 rfl rfl)
theorem mlX9_50 : eb_ML RX9 50 yX9_formOfAct := Or.inl (eb_tb4 25 rfl rfl)
theorem mlX10_232 : eb_ML RX10 232 yX10_act := Or.inl (eb_tb4 34 rfl rfl)
theorem mlX10_235 : eb_ML RX10 235 yX9_at := Or.inl (eb_tb4 38 rfl rfl)
theorem mlX10_257 : eb_ML RX10 257 yX9_digit := Or.inl (eb_tb4 39 rfl rfl)
theorem mlX10_260 : eb_ML RX10 260 yX9_signed := Or.inl (eb_tb4 40 rfl rfl)
theorem mlX10_238 : eb_ML RX10 238 yX9_formOfAct := Or.inl (eb_tb4 41 rfl rfl)
theorem mlX10_242 : eb_ML RX10 242 yJ0_length_8abf5 := Or.inl (eb_tb4 42 rfl rfl)
theorem xmX10_247 : Cond.methodLink RX10 247 Lib.Math.max.name ∈ eb_tbl := (eb_tb4 43 rfl rfl)
theorem mlL_99 : eb_ML RL 99 yX10_undo := Or.inl (eb_tb4 44 rfl rfl)
theorem mlX10_252 : eb_ML RX10 252 yX2_takeLatest := Or.inl (eb_tb4 48 rfl rfl)
theorem mlL_103 : eb_ML RL 103 yX10_moment := Or.inl (eb_tb4 52 rfl rfl)
theorem mlX10_263 : eb_ML RX10 263 yX10_weighAll := Or.inl (eb_tb4 56 rfl rfl)
theorem mlX10_174 : eb_ML RX10 174 yX6_weight := Or.inl (eb_tb4 60 rfl rfl)
theorem mlX10_269 : eb_ML RX10 269 yX6_windAt := Or.inl (eb_tb4 64 rfl rfl)
theorem mlX10_275 : eb_ML RX10 275 yX10_pullOf := Or.inl (eb_tb4 65 rfl rfl)
theorem mlX10_279 : eb_ML RX10 279 yX4_tell__ := Or.inl (eb_tb4 66 rfl rfl)
theorem mlL_107 : eb_ML RL 107 yX10_later := Or.inl (eb_tb4 70 rfl rfl)
theorem mlX10_282 : eb_ML RX10 282 yX10_lookAhead := Or.inl (eb_tb4 74 rfl rfl)
theorem mlL_111 : eb_ML RL 111 yX10_over := Or.inl (eb_tb4 78 rfl rfl)
theorem mlX10_285 : eb_ML RX10 285 yX4_tell := Or.inl (eb_tb4 82 rfl rfl)
theorem mlL_115 : eb_ML RL 115 yX10_when := Or.inl (eb_tb4 86 rfl rfl)
theorem mlL_119 : eb_ML RL 119 yX10_rolls := Or.inl (eb_tb4 90 rfl rfl)
theorem mlL_123 : eb_ML RL 123 yX10_steady := Or.inl (eb_tb4 94 rfl rfl)
theorem mlL_127 : eb_ML RL 127 yX10_makes := Or.inl (eb_tb4 98 rfl rfl)
theorem mlL_131 : eb_ML RL 131 yX10_steps := Or.inl (eb_tb4 102 rfl rfl)
theorem mlX10_290 : eb_ML RX10 290 yX6_ballast := Or.inl (eb_tb4 106 rfl rfl)
theorem mlX6_93 : eb_ML RX6 93 yX6_begin := Or.inl (eb_tb4 110 rfl rfl)
theorem mlX10_294 : eb_ML RX10 294 yX10_pullByBallast := Or.inl (eb_tb4 111 rfl rfl)
theorem mlX10_297 : eb_ML RX10 297 yX4_empty := Or.inl (eb_tb4 115 rfl rfl)
theorem mlX10_298 : eb_ML RX10 298 yX10_weighAllIfTold := Or.inl (eb_tb4 116 rfl rfl)
theorem mlX10_310 : eb_ML RX10 310 yX6_weightAs := Or.inl (eb_tb4 120 rfl rfl)
theorem mlX10_301 : eb_ML RX10 301 yX10_oneStep := Or.inl (eb_tb4 121 rfl rfl)
theorem mlX10_317 : eb_ML RX10 317 yX10_tellingThatStands := Or.inl (eb_tb4 125 rfl rfl)
theorem mlX10_324 : eb_ML RX10 324 yX10_guessStands := Or.inl (eb_tb4 129 rfl rfl)
theorem mlX10_314 : eb_ML RX10 314 yX7_othersLike := Or.inl (eb_tb4 133 rfl rfl)
theorem mlX10_304 : eb_ML RX10 304 yX10_twoSteps := Or.inl (eb_tb4 134 rfl rfl)
theorem mlX10_320 : eb_ML RX10 320 yX10_secondStep := Or.inl (eb_tb4 138 rfl rfl)
theorem mlL_135 : eb_ML RL 135 yX10_best := Or.inl (eb_tb4 142 rfl rfl)
theorem mlL_139 : eb_ML RL 139 yX10_trims := Or.inl (eb_tb4 146 rfl rfl)
theorem mlX10_155 : eb_ML RX10 155 yX7_has := Or.inl (eb_tb4 150 rfl rfl)
theorem mlL_143 : eb_ML RL 143 yX10_frees := Or.inl (eb_tb4 151 rfl rfl)
theorem mlX10_307 : eb_ML RX10 307 yX10_ballastOfLoads := Or.inl (eb_tb4 155 rfl rfl)
theorem mlL_147 : eb_ML RL 147 yX10_bears := Or.inl (eb_tb4 159 rfl rfl)
theorem mlL_151 : eb_ML RL 151 yX10_parties := Or.inl (eb_tb4 163 rfl rfl)
theorem mlX10_327 : eb_ML RX10 327 yX10_loadOf := Or.inl (eb_tb4 167 rfl rfl)
theorem mlX10_346 : eb_ML RX10 346 yX10_hasBit := Or.inl (eb_tb4 171 rfl rfl)
theorem mlL_155 : eb_ML RL 155 yX10_just := Or.inl (eb_tb4 174 rfl rfl)
theorem mlX10_330 : eb_ML RX10 330 yJ6_bitCount_0f7a4 := Or.inl (eb_tb4 178 rfl rfl)
theorem kcJ6_265 : Jvm.Cond.constant RJ6 265 1431655765 ∈ eb_tbl := (eb_tb4 181 rfl rfl)
theorem kcJ6_266 : Jvm.Cond.constant RJ6 266 858993459 ∈ eb_tbl := (eb_tb4 182 rfl rfl)
theorem kcJ6_267 : Jvm.Cond.constant RJ6 267 252645135 ∈ eb_tbl := (eb_tb4 183 rfl rfl)
theorem mlL_159 : eb_ML RL 159 yX10_swaps := Or.inl (eb_tb4 184 rfl rfl)
theorem mlX10_335 : eb_ML RX10 335 yX10_pullIfSwapped := Or.inl (eb_tb4 188 rfl rfl)
theorem mlL_163 : eb_ML RL 163 yX10_line := Or.inl (eb_tb4 192 rfl rfl)
theorem mlX10_338 : eb_ML RX10 338 yX10_heaviestBut := Or.inl (eb_tb4 196 rfl rfl)
theorem mlX10_341 : eb_ML RX10 341 yX4_add := Or.inl (eb_tb4 200 rfl rfl)
theorem mlL_167 : eb_ML RL 167 yX10_apart := Or.inl (eb_tb4 201 rfl rfl)
theorem mlX10_343 : eb_ML RX10 343 yX10_allDiffer := Or.inl (eb_tb4 205 rfl rfl)
theorem mlL_171 : eb_ML RL 171 yX10_saw := Or.inl (eb_tb4 209 rfl rfl)
theorem mlX10_349 : eb_ML RX10 349 yX8_add := Or.inl (eb_tb4 213 rfl rfl)
theorem mlL_176 : eb_ML RL 176 yX10_denies := Or.inl (eb_tb4 217 rfl rfl)
theorem mlX10_352 : eb_ML RX10 352 yX8_empty := Or.inl (eb_tb4 221 rfl rfl)
theorem mlL_180 : eb_ML RL 180 yX10_minds := Or.inl (eb_tb4 225 rfl rfl)
theorem mlX10_354 : eb_ML RX10 354 yX10_thoughtsLeft := Or.inl (eb_tb4 229 rfl rfl)
theorem mlX10_360 : eb_ML RX10 360 yX10_isAsSeen := Or.inl (eb_tb4 233 rfl rfl)
theorem mlL_184 : eb_ML RL 184 yX10_looks := Or.inl (eb_tb4 237 rfl rfl)
theorem mlX10_357 : eb_ML RX10 357 yX10_mostLeft := Or.inl (eb_tb5 1 rfl rfl)
theorem mlL_188 : eb_ML RL 188 yX10_heard := Or.inl (eb_tb5 5 rfl rfl)
theorem xlX10_372 : Cond.fieldLink RX10 372 "ElderBallast" "HEARD_MOST" "[I" ∈ eb_tbl := (eb_tb5 9 rfl rfl)
theorem mlL_192 : eb_ML RL 192 yX10_forget := Or.inl (eb_tb5 11 rfl rfl)
theorem mlL_196 : eb_ML RL 196 yX10_fits := Or.inl (eb_tb5 15 rfl rfl)
theorem mlX10_375 : eb_ML RX10 375 yX10_suspects := Or.inl (eb_tb5 19 rfl rfl)
theorem mlX10_381 : eb_ML RX10 381 yX10_isSo := Or.inl (eb_tb5 23 rfl rfl)
theorem mlL_200 : eb_ML RL 200 yX10_asks := Or.inl (eb_tb5 27 rfl rfl)
theorem mlX10_378 : eb_ML RX10 378 yX10_leftBehind := Or.inl (eb_tb5 31 rfl rfl)
theorem mlL_204 : eb_ML RL 204 yX10_grave := Or.inl (eb_tb5 35 rfl rfl)
theorem mlX10_384 : eb_ML RX10 384 yX0_start := Or.inl (eb_tb5 39 rfl rfl)
theorem mlX10_387 : eb_ML RX10 387 yX0_letHourGo := Or.inl (eb_tb5 43 rfl rfl)
theorem mlX0_27 : eb_ML RX0 27 yX6_ballastInHours := Or.inl (eb_tb5 47 rfl rfl)
theorem mlX0_36 : eb_ML RX0 36 yX10_pullOf := Or.inr ⟨_, (eb_tn5 48 rfl rfl)⟩
theorem mlX0_40 : eb_ML RX0 40 yX10_leanBy := Or.inr ⟨_, (eb_tn5 49 rfl rfl)⟩
theorem mlX0_44 : eb_ML RX0 44 yX0_go := Or.inl (eb_tb5 50 rfl rfl)
theorem xmX0_51 : Cond.methodLink RX0 51 Lib.Math.abs.name ∈ eb_tbl := (eb_tb5 54 rfl rfl)
theorem mlX0_57 : eb_ML RX0 57 yX10_within := Or.inr ⟨_, (eb_tn5 55 rfl rfl)⟩
theorem mlX10_394 : eb_ML RX10 394 yX10_greatestCommon := Or.inl (eb_tb5 56 rfl rfl)
theorem mlL_208 : eb_ML RL 208 yX10_cake := Or.inl (eb_tb5 59 rfl rfl)
theorem mlX10_397 : eb_ML RX10 397 yX3_leastThatWins := Or.inl (eb_tb5 63 rfl rfl)
theorem mlX3_19 : eb_ML RX3 19 yX3_leave := Or.inl (eb_tb5 67 rfl rfl)
theorem mlX3_23 : eb_ML RX3 23 yX3_winningPiece := Or.inl (eb_tb5 71 rfl rfl)
theorem mlX3_31 : eb_ML RX3 31 yX3_indexBehind := Or.inl (eb_tb5 75 rfl rfl)
theorem xmX3_39 : Cond.methodLink RX3 39 Lib.Math.min.name ∈ eb_tbl := (eb_tb5 79 rfl rfl)
theorem mlX3_35 : eb_ML RX3 35 yX10_within := Or.inr ⟨_, (eb_tn5 80 rfl rfl)⟩
theorem mlX3_27 : eb_ML RX3 27 yX3_setWins := Or.inl (eb_tb5 81 rfl rfl)
theorem mlL_212 : eb_ML RL 212 yX10_rests := Or.inl (eb_tb5 85 rfl rfl)
theorem mlX10_400 : eb_ML RX10 400 yX10_isContent := Or.inl (eb_tb5 89 rfl rfl)
theorem mlX10_410 : eb_ML RX10 410 yX10_gainOf := Or.inl (eb_tb5 92 rfl rfl)
theorem mlL_216 : eb_ML RL 216 yX10_law := Or.inl (eb_tb5 95 rfl rfl)
theorem kcX10_403 : Jvm.Cond.constant RX10 403 (-100000) ∈ eb_tbl := (eb_tb5 99 rfl rfl)
theorem mlX10_404 : eb_ML RX10 404 yX4_tell___ := Or.inl (eb_tb5 100 rfl rfl)
theorem mlL_220 : eb_ML RL 220 yX10_years := Or.inl (eb_tb5 104 rfl rfl)
theorem mlX10_406 : eb_ML RX10 406 yX1_start := Or.inl (eb_tb5 108 rfl rfl)
theorem mlX10_407 : eb_ML RX10 407 yX10_drawnYear := Or.inl (eb_tb5 112 rfl rfl)
theorem mlX10_413 : eb_ML RX10 413 yX1_draw := Or.inl (eb_tb5 116 rfl rfl)
theorem kcX1_13 : Jvm.Cond.constant RX1 13 1103515245 ∈ eb_tbl := (eb_tb5 120 rfl rfl)
theorem mlL_224 : eb_ML RL 224 yX10_keep := Or.inl (eb_tb5 121 rfl rfl)
theorem mlL_228 : eb_ML RL 228 yX10_again := Or.inl (eb_tb5 125 rfl rfl)
theorem mlL_232 : eb_ML RL 232 yX10_count := Or.inl (eb_tb5 129 rfl rfl)
theorem mlL_53 : eb_ML RL 53 yL_brother := Or.inl (eb_tb5 133 rfl rfl)
theorem mlL_7 : eb_ML RL 7 yX10_brother := Or.inl (eb_tb5 137 rfl rfl)
theorem mlL_62 : eb_ML RL 62 yL_price := Or.inl (eb_tb5 202 rfl rfl)
theorem mlL_15 : eb_ML RL 15 yX10_price := Or.inl (eb_tb5 205 rfl rfl)
theorem mlX10_178 : eb_ML RX10 178 yX6_priceOf := Or.inl (eb_tb5 209 rfl rfl)
theorem mlL_236 : eb_ML RL 236 yL_row := Or.inl (eb_tb5 210 rfl rfl)
theorem mlL_19 : eb_ML RL 19 yX10_row := Or.inl (eb_tb5 213 rfl rfl)
theorem clL_24 : Cond.classLink RL 24 RX11 ∈ eb_tbl := (eb_tb5 217 rfl rfl)
theorem nlL_24 : eb_NL RL 24 11 := ⟨RX11, TX11, 42, rfl, eb_inT inX11, rfl, by decide, tyX11_ok, (eb_tb5 217 rfl rfl), (eb_tb5 218 rfl rfl), (eb_tb1 18 rfl rfl), by decide⟩
theorem mlL_26 : eb_ML RL 26 yX11_init := Or.inl (eb_tb5 219 rfl rfl)
theorem olX11_3 : Cond.methodLink RX11 3 Lib.objectInit ∈ eb_tbl := (eb_tb5 222 rfl rfl)
theorem flX11_9 : eb_FL RX11 9 11 0 2 := ⟨RX11, TX11, 42, rfl, eb_inT inX11, by decide, rfl, rfl, by decide, Or.inl (eb_tb5 223 rfl rfl)⟩
theorem plX11_9 : eb_PL RX11 9 11 0 2 true := ⟨RX11, TX11, 42, rfl, eb_inT inX11, by decide, rfl, rfl, by decide, Or.inl (eb_tb5 223 rfl rfl), tyX11_ok, nmX11, rfl, fun _ => rfl⟩
theorem flX11_95 : eb_FL RX11 95 11 1 0 := ⟨RX11, TX11, 42, rfl, eb_inT inX11, by decide, rfl, rfl, by decide, Or.inl (eb_tb5 224 rfl rfl)⟩
theorem plX11_95 : eb_PL RX11 95 11 1 0 false := ⟨RX11, TX11, 42, rfl, eb_inT inX11, by decide, rfl, rfl, by decide, Or.inl (eb_tb5 224 rfl rfl), tyX11_ok, nmX11, rfl, fun h => by cases h⟩
theorem flX11_13 : eb_FL RX11 13 11 2 2 := ⟨RX11, TX11, 42, rfl, eb_inT inX11, by decide, rfl, rfl, by decide, Or.inl (eb_tb5 225 rfl rfl)⟩
theorem plX11_13 : eb_PL RX11 13 11 2 2 true := ⟨RX11, TX11, 42, rfl, eb_inT inX11, by decide, rfl, rfl, by decide, Or.inl (eb_tb5 225 rfl rfl), tyX11_ok, nmX11, rfl, fun _ => rfl⟩
theorem flX11_16 : eb_FL RX11 16 11 3 2 := ⟨RX11, TX11, 42, rfl, eb_inT inX11, by decide, rfl, rfl, by decide, Or.inl (eb_tb5 226 rfl rfl)⟩
theorem plX11_16 : eb_PL RX11 16 11 3 2 true := ⟨RX11, TX11, 42, rfl, eb_inT inX11, by decide, rfl, rfl, by decide, Or.inl (eb_tb5 226 rfl rfl), tyX11_ok, nmX11, rfl, fun _ => rfl⟩
theorem flX11_19 : eb_FL RX11 19 11 4 0 := ⟨RX11, TX11, 42, rfl, eb_inT inX11, by decide, rfl, rfl, by decide, Or.inl (eb_tb5 227 rfl rfl)⟩
theorem plX11_19 : eb_PL RX11 19 11 4 0 false := ⟨RX11, TX11, 42, rfl, eb_inT inX11, by decide, rfl, rfl, by decide, Or.inl (eb_tb5 227 rfl rfl), tyX11_ok, nmX11, rfl, fun h => by cases h⟩
theorem flX11_23 : eb_FL RX11 23 11 5 2 := ⟨RX11, TX11, 42, rfl, eb_inT inX11, by decide, rfl, rfl, by decide, Or.inl (eb_tb5 228 rfl rfl)⟩
theorem plX11_23 : eb_PL RX11 23 11 5 2 true := ⟨RX11, TX11, 42, rfl, eb_inT inX11, by decide, rfl, rfl, by decide, Or.inl (eb_tb5 228 rfl rfl), tyX11_ok, nmX11, rfl, fun _ => rfl⟩
theorem flX11_102 : eb_FL RX11 102 11 6 0 := ⟨RX11, TX11, 42, rfl, eb_inT inX11, by decide, rfl, rfl, by decide, Or.inl (eb_tb5 229 rfl rfl)⟩
theorem plX11_102 : eb_PL RX11 102 11 6 0 false := ⟨RX11, TX11, 42, rfl, eb_inT inX11, by decide, rfl, rfl, by decide, Or.inl (eb_tb5 229 rfl rfl), tyX11_ok, nmX11, rfl, fun h => by cases h⟩
theorem flX11_27 : eb_FL RX11 27 11 7 2 := ⟨RX11, TX11, 42, rfl, eb_inT inX11, by decide, rfl, rfl, by decide, Or.inl (eb_tb5 230 rfl rfl)⟩
theorem plX11_27 : eb_PL RX11 27 11 7 2 true := ⟨RX11, TX11, 42, rfl, eb_inT inX11, by decide, rfl, rfl, by decide, Or.inl (eb_tb5 230 rfl rfl), tyX11_ok, nmX11, rfl, fun _ => rfl⟩
theorem flX11_92 : eb_FL RX11 92 11 8 0 := ⟨RX11, TX11, 42, rfl, eb_inT inX11, by decide, rfl, rfl, by decide, Or.inl (eb_tb5 231 rfl rfl)⟩
theorem plX11_92 : eb_PL RX11 92 11 8 0 false := ⟨RX11, TX11, 42, rfl, eb_inT inX11, by decide, rfl, rfl, by decide, Or.inl (eb_tb5 231 rfl rfl), tyX11_ok, nmX11, rfl, fun h => by cases h⟩
theorem flX11_89 : eb_FL RX11 89 11 9 0 := ⟨RX11, TX11, 42, rfl, eb_inT inX11, by decide, rfl, rfl, by decide, Or.inl (eb_tb5 232 rfl rfl)⟩
theorem plX11_89 : eb_PL RX11 89 11 9 0 false := ⟨RX11, TX11, 42, rfl, eb_inT inX11, by decide, rfl, rfl, by decide, Or.inl (eb_tb5 232 rfl rfl), tyX11_ok, nmX11, rfl, fun h => by cases h⟩
theorem flX11_105 : eb_FL RX11 105 11 10 2 := ⟨RX11, TX11, 42, rfl, eb_inT inX11, by decide, rfl, rfl, by decide, Or.inl (eb_tb5 233 rfl rfl)⟩
theorem plX11_105 : eb_PL RX11 105 11 10 2 false := ⟨RX11, TX11, 42, rfl, eb_inT inX11, by decide, rfl, rfl, by decide, Or.inl (eb_tb5 233 rfl rfl), tyX11_ok, nmX11, rfl, fun h => by cases h⟩
theorem flX11_108 : eb_FL RX11 108 11 11 0 := ⟨RX11, TX11, 42, rfl, eb_inT inX11, by decide, rfl, rfl, by decide, Or.inl (eb_tb5 234 rfl rfl)⟩
theorem plX11_108 : eb_PL RX11 108 11 11 0 false := ⟨RX11, TX11, 42, rfl, eb_inT inX11, by decide, rfl, rfl, by decide, Or.inl (eb_tb5 234 rfl rfl), tyX11_ok, nmX11, rfl, fun h => by cases h⟩
theorem flX11_111 : eb_FL RX11 111 11 12 0 := ⟨RX11, TX11, 42, rfl, eb_inT inX11, by decide, rfl, rfl, by decide, Or.inl (eb_tb5 235 rfl rfl)⟩
theorem plX11_111 : eb_PL RX11 111 11 12 0 false := ⟨RX11, TX11, 42, rfl, eb_inT inX11, by decide, rfl, rfl, by decide, Or.inl (eb_tb5 235 rfl rfl), tyX11_ok, nmX11, rfl, fun h => by cases h⟩
theorem flX11_114 : eb_FL RX11 114 11 13 0 := ⟨RX11, TX11, 42, rfl, eb_inT inX11, by decide, rfl, rfl, by decide, Or.inl (eb_tb5 236 rfl rfl)⟩
theorem plX11_114 : eb_PL RX11 114 11 13 0 false := ⟨RX11, TX11, 42, rfl, eb_inT inX11, by decide, rfl, rfl, by decide, Or.inl (eb_tb5 236 rfl rfl), tyX11_ok, nmX11, rfl, fun h => by cases h⟩
theorem flX11_117 : eb_FL RX11 117 11 14 0 := ⟨RX11, TX11, 42, rfl, eb_inT inX11, by decide, rfl, rfl, by decide, Or.inl (eb_tb5 237 rfl rfl)⟩
theorem plX11_117 : eb_PL RX11 117 11 14 0 false := ⟨RX11, TX11, 42, rfl, eb_inT inX11, by decide, rfl, rfl, by decide, Or.inl (eb_tb5 237 rfl rfl), tyX11_ok, nmX11, rfl, fun h => by cases h⟩
theorem flX11_31 : eb_FL RX11 31 11 15 2 := ⟨RX11, TX11, 42, rfl, eb_inT inX11, by decide, rfl, rfl, by decide, Or.inl (eb_tb5 238 rfl rfl)⟩
theorem plX11_31 : eb_PL RX11 31 11 15 2 true := ⟨RX11, TX11, 42, rfl, eb_inT inX11, by decide, rfl, rfl, by decide, Or.inl (eb_tb5 238 rfl rfl), tyX11_ok, nmX11, rfl, fun _ => rfl⟩
theorem flX11_34 : eb_FL RX11 34 11 16 2 := ⟨RX11, TX11, 42, rfl, eb_inT inX11, by decide, rfl, rfl, by decide, Or.inl (eb_tb5 239 rfl rfl)⟩
theorem plX11_34 : eb_PL RX11 34 11 16 2 false := ⟨RX11, TX11, 42, rfl, eb_inT inX11, by decide, rfl, rfl, by decide, Or.inl (eb_tb5 239 rfl rfl), tyX11_ok, nmX11, rfl, fun h => by cases h⟩
theorem flX11_37 : eb_FL RX11 37 11 17 2 := ⟨RX11, TX11, 42, rfl, eb_inT inX11, by decide, rfl, rfl, by decide, Or.inl (eb_tb6 0 rfl rfl)⟩
theorem plX11_37 : eb_PL RX11 37 11 17 2 false := ⟨RX11, TX11, 42, rfl, eb_inT inX11, by decide, rfl, rfl, by decide, Or.inl (eb_tb6 0 rfl rfl), tyX11_ok, nmX11, rfl, fun h => by cases h⟩
theorem flX11_189 : eb_FL RX11 189 11 18 0 := ⟨RX11, TX11, 42, rfl, eb_inT inX11, by decide, rfl, rfl, by decide, Or.inl (eb_tb6 1 rfl rfl)⟩
theorem plX11_189 : eb_PL RX11 189 11 18 0 false := ⟨RX11, TX11, 42, rfl, eb_inT inX11, by decide, rfl, rfl, by decide, Or.inl (eb_tb6 1 rfl rfl), tyX11_ok, nmX11, rfl, fun h => by cases h⟩
theorem flX11_182 : eb_FL RX11 182 11 19 0 := ⟨RX11, TX11, 42, rfl, eb_inT inX11, by decide, rfl, rfl, by decide, Or.inl (eb_tb6 2 rfl rfl)⟩
theorem plX11_182 : eb_PL RX11 182 11 19 0 false := ⟨RX11, TX11, 42, rfl, eb_inT inX11, by decide, rfl, rfl, by decide, Or.inl (eb_tb6 2 rfl rfl), tyX11_ok, nmX11, rfl, fun h => by cases h⟩
theorem flX11_40 : eb_FL RX11 40 11 20 2 := ⟨RX11, TX11, 42, rfl, eb_inT inX11, by decide, rfl, rfl, by decide, Or.inl (eb_tb6 3 rfl rfl)⟩
theorem plX11_40 : eb_PL RX11 40 11 20 2 true := ⟨RX11, TX11, 42, rfl, eb_inT inX11, by decide, rfl, rfl, by decide, Or.inl (eb_tb6 3 rfl rfl), tyX11_ok, nmX11, rfl, fun _ => rfl⟩
theorem flX11_43 : eb_FL RX11 43 11 21 2 := ⟨RX11, TX11, 42, rfl, eb_inT inX11, by decide, rfl, rfl, by decide, Or.inl (eb_tb6 4 rfl rfl)⟩
theorem plX11_43 : eb_PL RX11 43 11 21 2 true := ⟨RX11, TX11, 42, rfl, eb_inT inX11, by decide, rfl, rfl, by decide, Or.inl (eb_tb6 4 rfl rfl), tyX11_ok, nmX11, rfl, fun _ => rfl⟩
theorem flX11_154 : eb_FL RX11 154 11 22 0 := ⟨RX11, TX11, 42, rfl, eb_inT inX11, by decide, rfl, rfl, by decide, Or.inl (eb_tb6 5 rfl rfl)⟩
theorem plX11_154 : eb_PL RX11 154 11 22 0 false := ⟨RX11, TX11, 42, rfl, eb_inT inX11, by decide, rfl, rfl, by decide, Or.inl (eb_tb6 5 rfl rfl), tyX11_ok, nmX11, rfl, fun h => by cases h⟩
theorem flX11_46 : eb_FL RX11 46 11 23 2 := ⟨RX11, TX11, 42, rfl, eb_inT inX11, by decide, rfl, rfl, by decide, Or.inl (eb_tb6 6 rfl rfl)⟩
theorem plX11_46 : eb_PL RX11 46 11 23 2 true := ⟨RX11, TX11, 42, rfl, eb_inT inX11, by decide, rfl, rfl, by decide, Or.inl (eb_tb6 6 rfl rfl), tyX11_ok, nmX11, rfl, fun _ => rfl⟩
theorem flX11_49 : eb_FL RX11 49 11 24 2 := ⟨RX11, TX11, 42, rfl, eb_inT inX11, by decide, rfl, rfl, by decide, Or.inl (eb_tb6 7 rfl rfl)⟩
theorem plX11_49 : eb_PL RX11 49 11 24 2 true := ⟨RX11, TX11, 42, rfl, eb_inT inX11, by decide, rfl, rfl, by decide, Or.inl (eb_tb6 7 rfl rfl), tyX11_ok, nmX11, rfl, fun _ => rfl⟩
theorem flX11_235 : eb_FL RX11 235 11 25 0 := ⟨RX11, TX11, 42, rfl, eb_inT inX11, by decide, rfl, rfl, by decide, Or.inl (eb_tb6 8 rfl rfl)⟩
theorem plX11_235 : eb_PL RX11 235 11 25 0 false := ⟨RX11, TX11, 42, rfl, eb_inT inX11, by decide, rfl, rfl, by decide, Or.inl (eb_tb6 8 rfl rfl), tyX11_ok, nmX11, rfl, fun h => by cases h⟩
theorem flX11_52 : eb_FL RX11 52 11 26 2 := ⟨RX11, TX11, 42, rfl, eb_inT inX11, by decide, rfl, rfl, by decide, Or.inl (eb_tb6 9 rfl rfl)⟩
theorem plX11_52 : eb_PL RX11 52 11 26 2 true := ⟨RX11, TX11, 42, rfl, eb_inT inX11, by decide, rfl, rfl, by decide, Or.inl (eb_tb6 9 rfl rfl), tyX11_ok, nmX11, rfl, fun _ => rfl⟩
theorem flX11_55 : eb_FL RX11 55 11 27 2 := ⟨RX11, TX11, 42, rfl, eb_inT inX11, by decide, rfl, rfl, by decide, Or.inl (eb_tb6 10 rfl rfl)⟩
theorem plX11_55 : eb_PL RX11 55 11 27 2 true := ⟨RX11, TX11, 42, rfl, eb_inT inX11, by decide, rfl, rfl, by decide, Or.inl (eb_tb6 10 rfl rfl), tyX11_ok, nmX11, rfl, fun _ => rfl⟩
theorem flX11_58 : eb_FL RX11 58 11 28 2 := ⟨RX11, TX11, 42, rfl, eb_inT inX11, by decide, rfl, rfl, by decide, Or.inl (eb_tb6 11 rfl rfl)⟩
theorem plX11_58 : eb_PL RX11 58 11 28 2 true := ⟨RX11, TX11, 42, rfl, eb_inT inX11, by decide, rfl, rfl, by decide, Or.inl (eb_tb6 11 rfl rfl), tyX11_ok, nmX11, rfl, fun _ => rfl⟩
theorem flX11_61 : eb_FL RX11 61 11 29 2 := ⟨RX11, TX11, 42, rfl, eb_inT inX11, by decide, rfl, rfl, by decide, Or.inl (eb_tb6 12 rfl rfl)⟩
theorem plX11_61 : eb_PL RX11 61 11 29 2 true := ⟨RX11, TX11, 42, rfl, eb_inT inX11, by decide, rfl, rfl, by decide, Or.inl (eb_tb6 12 rfl rfl), tyX11_ok, nmX11, rfl, fun _ => rfl⟩
theorem flX11_330 : eb_FL RX11 330 11 30 0 := ⟨RX11, TX11, 42, rfl, eb_inT inX11, by decide, rfl, rfl, by decide, Or.inl (eb_tb6 13 rfl rfl)⟩
theorem plX11_330 : eb_PL RX11 330 11 30 0 false := ⟨RX11, TX11, 42, rfl, eb_inT inX11, by decide, rfl, rfl, by decide, Or.inl (eb_tb6 13 rfl rfl), tyX11_ok, nmX11, rfl, fun h => by cases h⟩
theorem flX11_64 : eb_FL RX11 64 11 31 2 := ⟨RX11, TX11, 42, rfl, eb_inT inX11, by decide, rfl, rfl, by decide, Or.inl (eb_tb6 14 rfl rfl)⟩
theorem plX11_64 : eb_PL RX11 64 11 31 2 true := ⟨RX11, TX11, 42, rfl, eb_inT inX11, by decide, rfl, rfl, by decide, Or.inl (eb_tb6 14 rfl rfl), tyX11_ok, nmX11, rfl, fun _ => rfl⟩
theorem flX11_67 : eb_FL RX11 67 11 32 2 := ⟨RX11, TX11, 42, rfl, eb_inT inX11, by decide, rfl, rfl, by decide, Or.inl (eb_tb6 15 rfl rfl)⟩
theorem plX11_67 : eb_PL RX11 67 11 32 2 true := ⟨RX11, TX11, 42, rfl, eb_inT inX11, by decide, rfl, rfl, by decide, Or.inl (eb_tb6 15 rfl rfl), tyX11_ok, nmX11, rfl, fun _ => rfl⟩
theorem flX11_70 : eb_FL RX11 70 11 33 2 := ⟨RX11, TX11, 42, rfl, eb_inT inX11, by decide, rfl, rfl, by decide, Or.inl (eb_tb6 16 rfl rfl)⟩
theorem plX11_70 : eb_PL RX11 70 11 33 2 true := ⟨RX11, TX11, 42, rfl, eb_inT inX11, by decide, rfl, rfl, by decide, Or.inl (eb_tb6 16 rfl rfl), tyX11_ok, nmX11, rfl, fun _ => rfl⟩
theorem flX11_346 : eb_FL RX11 346 11 34 0 := ⟨RX11, TX11, 42, rfl, eb_inT inX11, by decide, rfl, rfl, by decide, Or.inl (eb_tb6 17 rfl rfl)⟩
theorem plX11_346 : eb_PL RX11 346 11 34 0 false := ⟨RX11, TX11, 42, rfl, eb_inT inX11, by decide, rfl, rfl, by decide, Or.inl (eb_tb6 17 rfl rfl), tyX11_ok, nmX11, rfl, fun h => by cases h⟩
theorem flX11_73 : eb_FL RX11 73 11 35 2 := ⟨RX11, TX11, 42, rfl, eb_inT inX11, by decide, rfl, rfl, by decide, Or.inl (eb_tb6 18 rfl rfl)⟩
theorem plX11_73 : eb_PL RX11 73 11 35 2 true := ⟨RX11, TX11, 42, rfl, eb_inT inX11, by decide, rfl, rfl, by decide, Or.inl (eb_tb6 18 rfl rfl), tyX11_ok, nmX11, rfl, fun _ => rfl⟩
theorem flX11_77 : eb_FL RX11 77 11 36 2 := ⟨RX11, TX11, 42, rfl, eb_inT inX11, by decide, rfl, rfl, by decide, Or.inl (eb_tb6 19 rfl rfl)⟩
theorem plX11_77 : eb_PL RX11 77 11 36 2 true := ⟨RX11, TX11, 42, rfl, eb_inT inX11, by decide, rfl, rfl, by decide, Or.inl (eb_tb6 19 rfl rfl), tyX11_ok, nmX11, rfl, fun _ => rfl⟩
theorem flX11_374 : eb_FL RX11 374 11 37 0 := ⟨RX11, TX11, 42, rfl, eb_inT inX11, by decide, rfl, rfl, by decide, Or.inl (eb_tb6 20 rfl rfl)⟩
theorem plX11_374 : eb_PL RX11 374 11 37 0 false := ⟨RX11, TX11, 42, rfl, eb_inT inX11, by decide, rfl, rfl, by decide, Or.inl (eb_tb6 20 rfl rfl), tyX11_ok, nmX11, rfl, fun h => by cases h⟩
theorem flX11_157 : eb_FL RX11 157 11 38 0 := ⟨RX11, TX11, 42, rfl, eb_inT inX11, by decide, rfl, rfl, by decide, Or.inl (eb_tb6 21 rfl rfl)⟩
theorem plX11_157 : eb_PL RX11 157 11 38 0 false := ⟨RX11, TX11, 42, rfl, eb_inT inX11, by decide, rfl, rfl, by decide, Or.inl (eb_tb6 21 rfl rfl), tyX11_ok, nmX11, rfl, fun h => by cases h⟩
theorem flX11_80 : eb_FL RX11 80 11 39 2 := ⟨RX11, TX11, 42, rfl, eb_inT inX11, by decide, rfl, rfl, by decide, Or.inl (eb_tb6 22 rfl rfl)⟩
theorem plX11_80 : eb_PL RX11 80 11 39 2 true := ⟨RX11, TX11, 42, rfl, eb_inT inX11, by decide, rfl, rfl, by decide, Or.inl (eb_tb6 22 rfl rfl), tyX11_ok, nmX11, rfl, fun _ => rfl⟩
theorem flX11_83 : eb_FL RX11 83 11 40 2 := ⟨RX11, TX11, 42, rfl, eb_inT inX11, by decide, rfl, rfl, by decide, Or.inl (eb_tb6 23 rfl rfl)⟩
theorem plX11_83 : eb_PL RX11 83 11 40 2 true := ⟨RX11, TX11, 42, rfl, eb_inT inX11, by decide, rfl, rfl, by decide, Or.inl (eb_tb6 23 rfl rfl), tyX11_ok, nmX11, rfl, fun _ => rfl⟩
theorem flX11_86 : eb_FL RX11 86 11 41 2 := ⟨RX11, TX11, 42, rfl, eb_inT inX11, by decide, rfl, rfl, by decide, Or.inl (eb_tb6 24 rfl rfl)⟩
theorem plX11_86 : eb_PL RX11 86 11 41 2 true := ⟨RX11, TX11, 42, rfl, eb_inT inX11, by decide, rfl, rfl, by decide, Or.inl (eb_tb6 24 rfl rfl), tyX11_ok, nmX11, rfl, fun _ => rfl⟩
theorem mlL_59 : eb_ML RL 59 yX11_thrown := Or.inl (eb_tb6 110 rfl rfl)
theorem mlL_30 : eb_ML RL 30 yX11_sign := Or.inl (eb_tb6 114 rfl rfl)
theorem mlL_35 : eb_ML RL 35 yX11_end := Or.inl (eb_tb6 118 rfl rfl)
theorem mlX11_98 : eb_ML RX11 98 yX11_in := Or.inl (eb_tb6 122 rfl rfl)
theorem mlL_40 : eb_ML RL 40 yX11_thoughts := Or.inl (eb_tb6 125 rfl rfl)
theorem mlX11_144 : eb_ML RX11 144 yX11_beginText := Or.inl (eb_tb6 129 rfl rfl)
theorem mlX11_120 : eb_ML RX11 120 yX11_begin := Or.inl (eb_tb6 133 rfl rfl)
theorem mlX11_124 : eb_ML RX11 124 yX11_fine := Or.inl (eb_tb6 137 rfl rfl)
theorem mlX11_140 : eb_ML RX11 140 yX11_oneOf := Or.inl (eb_tb6 141 rfl rfl)
theorem mlX11_128 : eb_ML RX11 128 yX11_here := Or.inl (eb_tb6 145 rfl rfl)
theorem mlX11_136 : eb_ML RX11 136 yX11_fault := Or.inl (eb_tb6 149 rfl rfl)
theorem mlX11_147 : eb_ML RX11 147 yX11_wasRight := Or.inl (eb_tb6 153 rfl rfl)
theorem mlL_44 : eb_ML RL 44 yX11_brothers := Or.inl (eb_tb6 157 rfl rfl)
theorem mlX11_150 : eb_ML RX11 150 yX11_signedOf := Or.inl (eb_tb6 161 rfl rfl)
theorem mlX11_132 : eb_ML RX11 132 yX11_passes := Or.inl (eb_tb6 165 rfl rfl)
theorem mlL_48 : eb_ML RL 48 yX11_winds := Or.inl (eb_tb6 169 rfl rfl)
theorem mlL_52 : eb_ML RL 52 yX11_rule := Or.inl (eb_tb6 173 rfl rfl)
theorem mlX11_186 : eb_ML RX11 186 yX11_readRule := Or.inl (eb_tb6 177 rfl rfl)
theorem mlX11_169 : eb_ML RX11 169 yX11_held := Or.inl (eb_tb6 181 rfl rfl)
theorem mlX11_160 : eb_ML RX11 160 yX11_sum := Or.inl (eb_tb6 185 rfl rfl)
theorem mlX11_163 : eb_ML RX11 163 yX11_product := Or.inl (eb_tb6 189 rfl rfl)
theorem mlX11_166 : eb_ML RX11 166 yX11_thing := Or.inl (eb_tb6 193 rfl rfl)
theorem mlX11_172 : eb_ML RX11 172 yX11_need := Or.inl (eb_tb6 197 rfl rfl)
theorem mlX11_176 : eb_ML RX11 176 yX11_number := Or.inl (eb_tb6 201 rfl rfl)
theorem mlX11_179 : eb_ML RX11 179 yX11_letterOf := Or.inl (eb_tb6 205 rfl rfl)
theorem mlL_58 : eb_ML RL 58 yX11_brother := Or.inl (eb_tb6 208 rfl rfl)
theorem mlX11_221 : eb_ML RX11 221 yX11_isOne := Or.inl (eb_tb6 212 rfl rfl)
theorem mlX11_225 : eb_ML RX11 225 yX11_lost := Or.inl (eb_tb6 216 rfl rfl)
theorem mlX11_204 : eb_ML RX11 204 yX11_weightOf := Or.inl (eb_tb6 220 rfl rfl)
theorem xmX11_192 : Cond.methodLink RX11 192 Lib.Math.abs.name ∈ eb_tbl := (eb_tb6 224 rfl rfl)
theorem xmX11_197 : Cond.methodLink RX11 197 Lib.Math.min.name ∈ eb_tbl := (eb_tb6 225 rfl rfl)
theorem xmX11_201 : Cond.methodLink RX11 201 Lib.Math.max.name ∈ eb_tbl := (eb_tb6 226 rfl rfl)
theorem mlL_65 : eb_ML RL 65 yX11_price := Or.inl (eb_tb6 227 rfl rfl)
theorem mlL_70 : eb_ML RL 70 yX11_sheet := Or.inl (eb_tb6 231 rfl rfl)
theorem mlX11_228 : eb_ML RX11 228 yX11_gravity := Or.inl (eb_tb6 235 rfl rfl)
theorem mlL_74 : eb_ML RL 74 yX11_hours := Or.inl (eb_tb6 239 rfl rfl)
theorem mlX11_246 : eb_ML RX11 246 yX11_remember := Or.inl (eb_tb7 3 rfl rfl)
theorem mlX11_231 : eb_ML RX11 231 yX11_lay := Or.inl (eb_tb7 7 rfl rfl)
theorem mlX11_249 : eb_ML RX11 249 yX11_goHours := Or.inl (eb_tb7 10 rfl rfl)
theorem mlX11_242 : eb_ML RX11 242 yX11_goHour := Or.inl (eb_tb7 14 rfl rfl)
theorem mlX11_211 : eb_ML RX11 211 yX11_windOf := Or.inl (eb_tb7 18 rfl rfl)
theorem mlX11_238 : eb_ML RX11 238 yX11_goHourBy := Or.inl (eb_tb7 22 rfl rfl)
theorem mlX11_215 : eb_ML RX11 215 yX11_momentOf := Or.inl (eb_tb7 26 rfl rfl)
theorem mlX11_208 : eb_ML RX11 208 yX11_sidesOf := Or.inl (eb_tb7 30 rfl rfl)
theorem mlX11_218 : eb_ML RX11 218 yX11_pullBy := Or.inl (eb_tb7 34 rfl rfl)
theorem mlX11_252 : eb_ML RX11 252 yX11_tell := Or.inl (eb_tb7 37 rfl rfl)
theorem mlL_78 : eb_ML RL 78 yX11_tells := Or.inl (eb_tb7 41 rfl rfl)
theorem mlX11_256 : eb_ML RX11 256 yX11_refusesTelling := Or.inl (eb_tb7 45 rfl rfl)
theorem mlL_82 : eb_ML RL 82 yX11_moves := Or.inl (eb_tb7 49 rfl rfl)
theorem mlX11_259 : eb_ML RX11 259 yX11_refusesMove := Or.inl (eb_tb7 53 rfl rfl)
theorem mlL_86 : eb_ML RL 86 yX11_eases := Or.inl (eb_tb7 57 rfl rfl)
theorem mlX11_262 : eb_ML RX11 262 yX11_refusesEase := Or.inl (eb_tb7 61 rfl rfl)
theorem mlL_90 : eb_ML RL 90 yX11_preaches := Or.inl (eb_tb7 65 rfl rfl)
theorem mlX11_265 : eb_ML RX11 265 yX11_refusesPreaching := Or.inl (eb_tb7 69 rfl rfl)
theorem mlL_94 : eb_ML RL 94 yX11_sails := Or.inl (eb_tb7 73 rfl rfl)
theorem mlX11_268 : eb_ML RX11 268 yX11_refusesSail := Or.inl (eb_tb7 77 rfl rfl)
theorem mlL_98 : eb_ML RL 98 yX11_watch := Or.inl (eb_tb7 81 rfl rfl)
theorem mlX11_271 : eb_ML RX11 271 yX11_readAct := Or.inl (eb_tb7 85 rfl rfl)
theorem mlX11_274 : eb_ML RX11 274 yX11_act := Or.inl (eb_tb7 89 rfl rfl)
theorem mlL_102 : eb_ML RL 102 yX11_undo := Or.inl (eb_tb7 93 rfl rfl)
theorem mlL_106 : eb_ML RL 106 yX11_moment := Or.inl (eb_tb7 97 rfl rfl)
theorem mlX11_277 : eb_ML RX11 277 yX11_pullOf := Or.inl (eb_tb7 101 rfl rfl)
theorem mlL_110 : eb_ML RL 110 yX11_later := Or.inl (eb_tb7 105 rfl rfl)
theorem mlX11_280 : eb_ML RX11 280 yX11_goThen := Or.inl (eb_tb7 109 rfl rfl)
theorem mlL_114 : eb_ML RL 114 yX11_over := Or.inl (eb_tb7 113 rfl rfl)
theorem mlL_118 : eb_ML RL 118 yX11_when := Or.inl (eb_tb7 117 rfl rfl)
theorem mlL_122 : eb_ML RL 122 yX11_rolls := Or.inl (eb_tb7 121 rfl rfl)
theorem kcX11_283 : Jvm.Cond.constant RX11 283 (-1000000) ∈ eb_tbl := (eb_tb7 125 rfl rfl)
theorem kcX11_284 : Jvm.Cond.constant RX11 284 1000000 ∈ eb_tbl := (eb_tb7 126 rfl rfl)
theorem mlL_126 : eb_ML RL 126 yX11_steady := Or.inl (eb_tb7 127 rfl rfl)
theorem mlL_130 : eb_ML RL 130 yX11_makes := Or.inl (eb_tb7 131 rfl rfl)
theorem mlL_134 : eb_ML RL 134 yX11_steps := Or.inl (eb_tb7 135 rfl rfl)
theorem mlX11_285 : eb_ML RX11 285 yX11_stands := Or.inl (eb_tb7 139 rfl rfl)
theorem mlX11_288 : eb_ML RX11 288 yX11_isTelling := Or.inl (eb_tb7 143 rfl rfl)
theorem mlX11_291 : eb_ML RX11 291 yX11_think := Or.inl (eb_tb7 147 rfl rfl)
theorem mlX11_294 : eb_ML RX11 294 yX11_unthink := Or.inl (eb_tb7 151 rfl rfl)
theorem mlL_138 : eb_ML RL 138 yX11_best := Or.inl (eb_tb7 155 rfl rfl)
theorem mlX11_297 : eb_ML RX11 297 yX11_leaguesBy := Or.inl (eb_tb7 159 rfl rfl)
theorem mlL_142 : eb_ML RL 142 yX11_trims := Or.inl (eb_tb7 163 rfl rfl)
theorem mlX11_300 : eb_ML RX11 300 yX11_pullAt := Or.inl (eb_tb7 167 rfl rfl)
theorem mlL_146 : eb_ML RL 146 yX11_frees := Or.inl (eb_tb7 171 rfl rfl)
theorem mlX11_303 : eb_ML RX11 303 yX11_pullWithout := Or.inl (eb_tb7 175 rfl rfl)
theorem mlL_150 : eb_ML RL 150 yX11_bears := Or.inl (eb_tb7 179 rfl rfl)
theorem mlL_154 : eb_ML RL 154 yX11_parties := Or.inl (eb_tb7 183 rfl rfl)
theorem mlX11_310 : eb_ML RX11 310 yX11_all := Or.inl (eb_tb7 187 rfl rfl)
theorem mlX11_316 : eb_ML RX11 316 yX11_differing := Or.inl (eb_tb7 191 rfl rfl)
theorem mlX11_313 : eb_ML RX11 313 yX11_weightsOf := Or.inl (eb_tb7 195 rfl rfl)
theorem mlX11_306 : eb_ML RX11 306 yX11_has := Or.inl (eb_tb7 199 rfl rfl)
theorem mlL_158 : eb_ML RL 158 yX11_just := Or.inl (eb_tb7 202 rfl rfl)
theorem mlX11_319 : eb_ML RX11 319 yJ6_bitCount_0f7a4 := Or.inl (eb_tb7 206 rfl rfl)
theorem mlL_162 : eb_ML RL 162 yX11_swaps := Or.inl (eb_tb7 207 rfl rfl)
theorem mlX11_324 : eb_ML RX11 324 yX11_pullSwapped := Or.inl (eb_tb7 211 rfl rfl)
theorem mlL_166 : eb_ML RL 166 yX11_line := Or.inl (eb_tb7 215 rfl rfl)
theorem mlL_170 : eb_ML RL 170 yX11_apart := Or.inl (eb_tb7 219 rfl rfl)
theorem mlX11_327 : eb_ML RX11 327 yX11_areApart := Or.inl (eb_tb7 223 rfl rfl)
theorem mlL_175 : eb_ML RL 175 yX11_saw := Or.inl (eb_tb7 227 rfl rfl)
theorem mlL_179 : eb_ML RL 179 yX11_denies := Or.inl (eb_tb7 231 rfl rfl)
theorem mlL_183 : eb_ML RL 183 yX11_minds := Or.inl (eb_tb7 235 rfl rfl)
theorem mlX11_337 : eb_ML RX11 337 yX11_laySides := Or.inl (eb_tb7 239 rfl rfl)
theorem mlX11_340 : eb_ML RX11 340 yX11_thinkable := Or.inl (eb_tb8 3 rfl rfl)
theorem mlX11_333 : eb_ML RX11 333 yX11_pullSeen := Or.inl (eb_tb8 7 rfl rfl)
theorem mlL_187 : eb_ML RL 187 yX11_looks := Or.inl (eb_tb8 11 rfl rfl)
theorem mlL_191 : eb_ML RL 191 yX11_heard := Or.inl (eb_tb8 15 rfl rfl)
theorem mlX11_343 : eb_ML RX11 343 yX11_highOf := Or.inl (eb_tb8 19 rfl rfl)
theorem mlL_195 : eb_ML RL 195 yX11_forget := Or.inl (eb_tb8 22 rfl rfl)
theorem mlL_199 : eb_ML RL 199 yX11_fits := Or.inl (eb_tb8 26 rfl rfl)
theorem mlX11_352 : eb_ML RX11 352 yX11_fitting := Or.inl (eb_tb8 30 rfl rfl)
theorem mlX11_349 : eb_ML RX11 349 yX11_isSo := Or.inl (eb_tb8 34 rfl rfl)
theorem mlL_203 : eb_ML RL 203 yX11_asks := Or.inl (eb_tb8 38 rfl rfl)
theorem mlL_207 : eb_ML RL 207 yX11_grave := Or.inl (eb_tb8 42 rfl rfl)
theorem kcX11_359 : Jvm.Cond.constantLong RX11 359 10 ∈ eb_tbl := (eb_tb8 46 rfl rfl)
theorem mlX11_355 : eb_ML RX11 355 yX11_common := Or.inl (eb_tb8 47 rfl rfl)
theorem mlL_211 : eb_ML RL 211 yX11_cake := Or.inl (eb_tb8 50 rfl rfl)
theorem mlX11_361 : eb_ML RX11 361 yX11_cakeOf := Or.inl (eb_tb8 54 rfl rfl)
theorem mlX11_364 : eb_ML RX11 364 yX11_pieceOf := Or.inl (eb_tb8 57 rfl rfl)
theorem mlL_215 : eb_ML RL 215 yX11_rests := Or.inl (eb_tb8 61 rfl rfl)
theorem mlX11_370 : eb_ML RX11 370 yX11_isBest := Or.inl (eb_tb8 65 rfl rfl)
theorem mlX11_367 : eb_ML RX11 367 yX11_gets := Or.inl (eb_tb8 68 rfl rfl)
theorem mlL_219 : eb_ML RL 219 yX11_law := Or.inl (eb_tb8 71 rfl rfl)
theorem kcX11_373 : Jvm.Cond.constant RX11 373 (-100000) ∈ eb_tbl := (eb_tb8 75 rfl rfl)
theorem mlL_223 : eb_ML RL 223 yX11_years := Or.inl (eb_tb8 76 rfl rfl)
theorem mlX11_378 : eb_ML RX11 378 yX11_draw := Or.inl (eb_tb8 80 rfl rfl)
theorem kcX11_377 : Jvm.Cond.constant RX11 377 1103515245 ∈ eb_tbl := (eb_tb8 84 rfl rfl)
theorem mlL_227 : eb_ML RL 227 yX11_keep := Or.inl (eb_tb8 85 rfl rfl)
theorem mlL_231 : eb_ML RL 231 yX11_again := Or.inl (eb_tb8 89 rfl rfl)
theorem mlL_235 : eb_ML RL 235 yX11_count := Or.inl (eb_tb8 93 rfl rfl)
theorem mlL_238 : eb_ML RL 238 yX11_row := Or.inl (eb_tb8 97 rfl rfl)
theorem xlJ0_15 : Cond.fieldLink RJ0 15 "java/lang/String" "coder" "B" ∈ eb_tbl := (eb_tb8 117 rfl rfl)
theorem xlJ0_9 : Cond.fieldLink RJ0 9 "java/lang/String" "value" "[B" ∈ eb_tbl := (eb_tb8 118 rfl rfl)
theorem xw_max : Cond.static Lib.Math.max.name ∈ eb_tbl ∧ Cond.initialized "java/lang/Math" ∈ eb_tbl ∧ Cond.code Lib.Math.max.name Lib.Math.max.code 2 (some .int) ∈ eb_tbl := ⟨(eb_tb1 128 rfl rfl), (eb_tb1 8 rfl rfl), (eb_tb1 129 rfl rfl)⟩
theorem xw_min : Cond.static Lib.Math.min.name ∈ eb_tbl ∧ Cond.initialized "java/lang/Math" ∈ eb_tbl ∧ Cond.code Lib.Math.min.name Lib.Math.min.code 2 (some .int) ∈ eb_tbl := ⟨(eb_tb1 131 rfl rfl), (eb_tb1 8 rfl rfl), (eb_tb1 132 rfl rfl)⟩
theorem xw_abs : Cond.static Lib.Math.abs.name ∈ eb_tbl ∧ Cond.initialized "java/lang/Math" ∈ eb_tbl ∧ Cond.code Lib.Math.abs.name Lib.Math.abs.code 1 (some .int) ∈ eb_tbl := ⟨(eb_tb3 155 rfl rfl), (eb_tb1 8 rfl rfl), (eb_tb3 156 rfl rfl)⟩
section EBX
variable {M : eb_M} {d pc idx : Nat} {l : List (Nat × Value)} {st : List Value} {σ : eb_S} {r : Option Value} {τ : eb_S}
theorem eb_max {x y : Int32} (hd : decode M.2.1 pc = .ok (.invokestatic idx, 3)) (hL : Cond.methodLink M.1.cls idx Lib.Math.max.name ∈ eb_tbl) (hrest : (st.map fun v => v.category).sum ≤ 8) (kk : eb_V M (d + 1) (pc + 3) l (.int (if x < y then y else x) :: st) σ r τ) : eb_V M (d + 1) pc l (.int y :: .int x :: st) σ r τ :=
  eb_out (fun p l0 e R s m args below meth c Q H locs cells slots D AC A ad ls hC hY hS hz w h1 h2 => by
    obtain ⟨cx, cb, cm, co, ct, cK, cA, cf, cl, cn, cN, cO, cT⟩ := hC
    exact va_mmax cx cb (cm.trans hz.symm) co (ct _ hL) (ct _ xw_max.1) (ct _ xw_max.2.1) (ct _ xw_max.2.2) (by omega) (by rw [eb_cat_map]; omega) h1 h2 hd (by first | exact w | simpa using w)) kk
theorem eb_min {x y : Int32} (hd : decode M.2.1 pc = .ok (.invokestatic idx, 3)) (hL : Cond.methodLink M.1.cls idx Lib.Math.min.name ∈ eb_tbl) (hrest : (st.map fun v => v.category).sum ≤ 8) (kk : eb_V M (d + 1) (pc + 3) l (.int (if y < x then y else x) :: st) σ r τ) : eb_V M (d + 1) pc l (.int y :: .int x :: st) σ r τ :=
  eb_out (fun p l0 e R s m args below meth c Q H locs cells slots D AC A ad ls hC hY hS hz w h1 h2 => by
    obtain ⟨cx, cb, cm, co, ct, cK, cA, cf, cl, cn, cN, cO, cT⟩ := hC
    exact va_mmin cx cb (cm.trans hz.symm) co (ct _ hL) (ct _ xw_min.1) (ct _ xw_min.2.1) (ct _ xw_min.2.2) (by omega) (by rw [eb_cat_map]; omega) h1 h2 hd (by first | exact w | simpa using w)) kk
theorem eb_abs {x : Int32} (hd : decode M.2.1 pc = .ok (.invokestatic idx, 3)) (hL : Cond.methodLink M.1.cls idx Lib.Math.abs.name ∈ eb_tbl) (hrest : (st.map fun v => v.category).sum ≤ 8) (kk : eb_V M (d + 1) (pc + 3) l (.int (if 0 ≤ x then x else 0 - x) :: st) σ r τ) : eb_V M (d + 1) pc l (.int x :: st) σ r τ :=
  eb_out (fun p l0 e R s m args below meth c Q H locs cells slots D AC A ad ls hC hY hS hz w h1 h2 => by
    obtain ⟨cx, cb, cm, co, ct, cK, cA, cf, cl, cn, cN, cO, cT⟩ := hC
    exact va_mabs cx cb (cm.trans hz.symm) co (ct _ hL) (ct _ xw_abs.1) (ct _ xw_abs.2.1) (ct _ xw_abs.2.2) (by omega) (by rw [eb_cat_map]; omega) h1 h2 hd (by first | exact w | simpa using w)) kk
end EBX
