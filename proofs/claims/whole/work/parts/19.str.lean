/-! String constants: length, charAt, indexOf; Integer.bitCount -/
theorem pn_J : plainName RJ0 = true ∧ plainName RJ1 = true ∧ plainName RJ3 = true ∧ plainName RJ6 = true := by decide +kernel
theorem eb_rE {M : eb_M} {d : Nat} {as : List Value} {σ : eb_S} {x : Int32} (h : eb_Q M d as σ (eb_r x σ)) : eb_E M d as σ (some (.int x)) σ := by
  obtain ⟨_, _, ⟨rfl, rfl⟩, h⟩ := h
  exact h
/-- the sign at k of the constant i -/
def z_ch (i k : Nat) : Int32 := (eb_byt.getD i []).getD k 0 &&& 255
def z_ln (i : Nat) : Nat := eb_len.getD i 0
theorem z_ln7 : ∀ i, i < 11 → z_ln i ≤ 7 := by decide
theorem mkX5_85 : Cond.methodLink RX5 85 yJ0_indexOf_0f7a4 ∈ eb_tbl := eb_tb1 99 rfl rfl
theorem mkJ0_633 : Cond.methodLink RJ0 633 yJ0_indexOf_7cf53 ∈ eb_tbl := eb_tb1 103 rfl rfl
theorem mkJ0_492 : Cond.methodLink RJ0 492 yJ0_isLatin1_aae02 ∈ eb_tbl := eb_tb1 107 rfl rfl
theorem mkJ0_505 : Cond.methodLink RJ0 505 yJ0_length_8abf5 ∈ eb_tbl := eb_tb1 113 rfl rfl
theorem mkJ0_335 : Cond.methodLink RJ0 335 yJ0_coder_7d493 ∈ eb_tbl := eb_tb1 117 rfl rfl
theorem mkJ2_241 : Cond.methodLink RJ2 241 yJ0_checkBoundsBeginEnd_23922 ∈ eb_tbl := eb_tb1 151 rfl rfl
theorem mkX9_34 : Cond.methodLink RX9 34 yJ0_length_8abf5 ∈ eb_tbl := eb_tb3 22 rfl rfl
theorem mkX9_54 : Cond.methodLink RX9 54 yJ0_charAt_5068e ∈ eb_tbl := eb_tb3 23 rfl rfl
theorem mkJ1_9 : Cond.methodLink RJ1 9 yJ0_checkIndex_df160 ∈ eb_tbl := eb_tb3 30 rfl rfl
theorem mkJ2_414 : Cond.methodLink RJ2 414 yJ0_checkIndex_df160 ∈ eb_tbl := eb_tb3 42 rfl rfl
theorem mkX10_242 : Cond.methodLink RX10 242 yJ0_length_8abf5 ∈ eb_tbl := eb_tb4 42 rfl rfl
theorem q_J0_coder_7d493 {σ : eb_S} (d : Nat) {i : Nat} (hi : i < 11) : eb_Q mJ0_coder_7d493 d [.ref (1000000 + i)] σ (eb_r 0 σ) := by
  refine ep_meth pn_J.1 (Nat.le_of_ble_eq_true rfl) ?_
  show eb_P mJ0_coder_7d493 (d) 0 [(0, .ref (1000000 + i))] [] σ _
  refine ep_compact dJ0_coder_7d493_0 xlJ0_38 ?_
  refine ep_if_eq (tgt := 13) dJ0_coder_7d493_3 (by decide) (fun c1 => absurd c1 (by decide)) (fun c1 => ?_)
  refine ep_aload_n (i := 0) dJ0_coder_7d493_6 rfl rfl ?_
  refine ep_scoder (i := i) dJ0_coder_7d493_7 xlJ0_15 hi ?_
  refine ep_goto (tgt := 14) dJ0_coder_7d493_10 (by decide) ?_
  refine ep_iret dJ0_coder_7d493_14 rfl rfl ?_
  exact ⟨rfl, rfl⟩
theorem q_J0_isLatin1_aae02 {σ : eb_S} (d : Nat) {i : Nat} (hi : i < 11) : eb_Q mJ0_isLatin1_aae02 d [.ref (1000000 + i)] σ (eb_r 1 σ) := by
  refine ep_meth pn_J.1 (Nat.le_of_ble_eq_true rfl) ?_
  show eb_P mJ0_isLatin1_aae02 (d) 0 [(0, .ref (1000000 + i))] [] σ _
  refine ep_compact dJ0_isLatin1_aae02_0 xlJ0_38 ?_
  refine ep_if_eq (tgt := 17) dJ0_isLatin1_aae02_3 (by decide) (fun c1 => absurd c1 (by decide)) (fun c1 => ?_)
  refine ep_aload_n (i := 0) dJ0_isLatin1_aae02_6 rfl rfl ?_
  refine ep_scoder (i := i) dJ0_isLatin1_aae02_7 xlJ0_15 hi ?_
  refine ep_if_ne (tgt := 17) dJ0_isLatin1_aae02_10 (by decide) (fun c2 => absurd c2 (by decide)) (fun c2 => ?_)
  refine ep_iconst (v := 1) dJ0_isLatin1_aae02_13 (by decide) ?_
  refine ep_goto (tgt := 18) dJ0_isLatin1_aae02_14 (by decide) ?_
  refine ep_iret dJ0_isLatin1_aae02_18 rfl rfl ?_
  exact ⟨rfl, rfl⟩
theorem q_J0_length_8abf5 {σ : eb_S} (d : Nat) {i : Nat} (hi : i < 11) : eb_Q mJ0_length_8abf5 (d + 1) [.ref (1000000 + i)] σ (eb_r (nI (z_ln i)) σ) := by
  refine ep_meth pn_J.1 (Nat.le_of_ble_eq_true rfl) ?_
  show eb_P mJ0_length_8abf5 (d + 1) 0 [(0, .ref (1000000 + i))] [] σ _
  refine ep_aload_n (i := 0) dJ0_length_8abf5_0 rfl rfl ?_
  refine ep_svalue (i := i) dJ0_length_8abf5_1 xlJ0_9 hi ?_
  refine ep_slen (i := i) (v := nI (eb_len.getD i 0)) dJ0_length_8abf5_4 hi rfl ?_
  refine ep_aload_n (i := 0) dJ0_length_8abf5_5 rfl rfl ?_
  refine ep_callT (M1 := mJ0_coder_7d493) (i := i) (rest := [.int (nI (eb_len.getD i 0))]) hi rfl dJ0_length_8abf5_6 mkJ0_335 mcJ0_coder_7d493 mtJ0_coder_7d493 rfl (Nat.le_of_ble_eq_true rfl) rfl (q_J0_coder_7d493 d hi) eb_rok ?_
  rintro _ _ ⟨rfl, rfl⟩
  show eb_P _ _ 9 [(0, .ref (1000000 + i))] (.int 0 :: [.int (nI (eb_len.getD i 0))]) _ _
  refine ep_ishr dJ0_length_8abf5_9 ?_
  refine ep_iret dJ0_length_8abf5_10 rfl rfl ?_
  exact ⟨rfl, by rw [show eb_len.getD i 0 = z_ln i from rfl, sc_shr0 (by have := z_ln7 i hi; omega)]⟩
theorem q_J3_checka {σ : eb_S} (d : Nat) {k m : Nat} (hk : k < m) (hm : m < 2147483648) : eb_Q mJ3_checkIndex_8e157 d [.int (nI k), .int (nI m), .null] σ (eb_r (nI k) σ) := by
  refine ep_meth pn_J.2.2.1 (Nat.le_of_ble_eq_true rfl) ?_
  show eb_P _ d 0 [(0, .int (nI k)), (1, .int (nI m)), (2, .null)] [] σ _
  refine ep_iload_n (i := 0) dJ3_checkIndex_8e157_0 rfl rfl ?_
  refine ep_if_lt (tgt := 9) dJ3_checkIndex_8e157_1 (by decide) (fun c1 => absurd c1 (nI_pos (by omega))) (fun c1 => ?_)
  refine ep_iload_n (i := 0) dJ3_checkIndex_8e157_4 rfl rfl ?_
  refine ep_iload_n (i := 1) dJ3_checkIndex_8e157_5 rfl rfl ?_
  refine ep_icmp_lt (tgt := 16) dJ3_checkIndex_8e157_6 (by decide) (fun c2 => ?_) (fun c2 => absurd (nI_lt hk (by omega)) c2)
  refine ep_iload_n (i := 0) dJ3_checkIndex_8e157_16 rfl rfl ?_
  refine ep_iret dJ3_checkIndex_8e157_17 rfl rfl ?_
  exact ⟨rfl, rfl⟩
theorem q_J3_checkb {σ : eb_S} (d : Nat) {k m : Nat} (hk : k < m) (hm : m < 2147483648) : eb_Q mJ3_checkIndex_8e157 d [.int (nI k), .int (nI m), .ref 1000070] σ (eb_r (nI k) σ) := by
  refine ep_meth pn_J.2.2.1 (Nat.le_of_ble_eq_true rfl) ?_
  show eb_P _ d 0 [(0, .int (nI k)), (1, .int (nI m)), (2, .ref 1000070)] [] σ _
  refine ep_iload_n (i := 0) dJ3_checkIndex_8e157_0 rfl rfl ?_
  refine ep_if_lt (tgt := 9) dJ3_checkIndex_8e157_1 (by decide) (fun c1 => absurd c1 (nI_pos (by omega))) (fun c1 => ?_)
  refine ep_iload_n (i := 0) dJ3_checkIndex_8e157_4 rfl rfl ?_
  refine ep_iload_n (i := 1) dJ3_checkIndex_8e157_5 rfl rfl ?_
  refine ep_icmp_lt (tgt := 16) dJ3_checkIndex_8e157_6 (by decide) (fun c2 => ?_) (fun c2 => absurd (nI_lt hk (by omega)) c2)
  refine ep_iload_n (i := 0) dJ3_checkIndex_8e157_16 rfl rfl ?_
  refine ep_iret dJ3_checkIndex_8e157_17 rfl rfl ?_
  exact ⟨rfl, rfl⟩
theorem q_J0_checkIndex {σ : eb_S} (d : Nat) {k m : Nat} (hk : k < m) (hm : m < 2147483648) : eb_Q mJ0_checkIndex_df160 (d + 1) [.int (nI k), .int (nI m)] σ (eb_v σ) := by
  refine ⟨none, σ, ⟨rfl, rfl⟩, eb_meth pn_J.1 (Nat.le_of_ble_eq_true rfl) ?_⟩
  show eb_V _ _ 0 [(0, .int (nI k)), (1, .int (nI m))] [] σ _ _
  refine eb_iload_n (i := 0) dJ0_checkIndex_df160_0 rfl rfl ?_
  refine eb_iload_n (i := 1) dJ0_checkIndex_df160_1 rfl rfl ?_
  refine eb_sioobe dJ0_checkIndex_df160_2 xlJ0_1053 ?_ ?_
  · refine eb_callS (M1 := mJ3_checkIndex_8e157) (rest := []) (eb_rE (q_J3_checka d hk hm)) dJ0_checkIndex_df160_5 mlJ0_1059 msJ3_checkIndex_8e157 rfl (Nat.le_of_ble_eq_true rfl) rfl (Or.inl rfl) ?_
    refine eb_pop dJ0_checkIndex_df160_8 rfl ?_
    exact eb_vret dJ0_checkIndex_df160_9 rfl
  · refine eb_callS (M1 := mJ3_checkIndex_8e157) (rest := []) (eb_rE (q_J3_checkb d hk hm)) dJ0_checkIndex_df160_5 mlJ0_1059 msJ3_checkIndex_8e157 rfl (Nat.le_of_ble_eq_true rfl) rfl (Or.inl rfl) ?_
    refine eb_pop dJ0_checkIndex_df160_8 rfl ?_
    exact eb_vret dJ0_checkIndex_df160_9 rfl
theorem eb_vok {σ2 σ : eb_S} (h : σ2.1 = σ.1) {l : List (Nat × Value)} {rest : List Value} : ∀ r1 σ1, eb_v σ2 r1 σ1 → σ1.1 = σ.1 ∨ ((∀ q ∈ l, eb_okv σ.1 q.2) ∧ ∀ v ∈ rest, eb_okv σ.1 v) := fun _ _ g => Or.inl (by rw [g.1]; exact h)
theorem q_J1_charAt_3b067 {σ : eb_S} (d : Nat) {i : Nat} (hi : i < 11) {k : Nat} (hk : k < z_ln i) : eb_Q mJ1_charAt_3b067 (d + 2) [.ref (1000020 + i), .int (nI k)] σ (eb_r (z_ch i k) σ) := by
  refine ep_meth pn_J.2.1 (Nat.le_of_ble_eq_true rfl) ?_
  show eb_P mJ1_charAt_3b067 (d + 2) 0 [(0, .ref (1000020 + i)), (1, .int (nI k))] [] σ _
  refine ep_iload_n (i := 1) dJ1_charAt_3b067_0 rfl rfl ?_
  refine ep_aload_n (i := 0) dJ1_charAt_3b067_1 rfl rfl ?_
  refine ep_slen (i := i) (v := nI (eb_len.getD i 0)) dJ1_charAt_3b067_2 hi rfl ?_
  refine ep_callS (M1 := mJ0_checkIndex_df160) (rest := []) dJ1_charAt_3b067_3 mlJ1_9 msJ0_checkIndex_df160 rfl (Nat.le_of_ble_eq_true rfl) rfl (q_J0_checkIndex d hk (by have := z_ln7 i hi; omega)) (eb_vok rfl) ?_
  rintro _ _ ⟨rfl, rfl⟩
  show eb_P _ _ 6 [(0, .ref (1000020 + i)), (1, .int (nI k))] [] _ _
  refine ep_aload_n (i := 0) dJ1_charAt_3b067_6 rfl rfl ?_
  refine ep_iload_n (i := 1) dJ1_charAt_3b067_7 rfl rfl ?_
  refine ep_sbyteN (i := i) (k := k) dJ1_charAt_3b067_8 hi hk ?_
  refine ep_sipush (v := 255) dJ1_charAt_3b067_9 (by decide) ?_
  refine ep_iand dJ1_charAt_3b067_12 ?_
  refine ep_i2c dJ1_charAt_3b067_13 rfl ?_
  refine ep_iret dJ1_charAt_3b067_14 rfl (by rw [sc_c2]; exact sc_nar _) ?_
  exact ⟨rfl, by rw [sc_c2]; rfl⟩
theorem q_J0_charAt_5068e {σ : eb_S} (d : Nat) {i : Nat} (hi : i < 11) {k : Nat} (hk : k < z_ln i) : eb_Q mJ0_charAt_5068e (d + 3) [.ref (1000000 + i), .int (nI k)] σ (eb_r (z_ch i k) σ) := by
  refine ep_meth pn_J.1 (Nat.le_of_ble_eq_true rfl) ?_
  show eb_P mJ0_charAt_5068e (d + 3) 0 [(0, .ref (1000000 + i)), (1, .int (nI k))] [] σ _
  refine ep_aload_n (i := 0) dJ0_charAt_5068e_0 rfl rfl ?_
  refine ep_callT (M1 := mJ0_isLatin1_aae02) (i := i) (rest := []) hi rfl dJ0_charAt_5068e_1 mkJ0_492 mcJ0_isLatin1_aae02 mtJ0_isLatin1_aae02 rfl (Nat.le_of_ble_eq_true rfl) rfl (q_J0_isLatin1_aae02 (d + 2) hi) eb_rok ?_
  rintro _ _ ⟨rfl, rfl⟩
  show eb_P _ _ 4 [(0, .ref (1000000 + i)), (1, .int (nI k))] (.int 1 :: []) _ _
  refine ep_if_eq (tgt := 16) dJ0_charAt_5068e_4 (by decide) (fun c1 => absurd c1 (by decide)) (fun c1 => ?_)
  refine ep_aload_n (i := 0) dJ0_charAt_5068e_7 rfl rfl ?_
  refine ep_svalue (i := i) dJ0_charAt_5068e_8 xlJ0_9 hi ?_
  refine ep_iload_n (i := 1) dJ0_charAt_5068e_11 rfl rfl ?_
  refine ep_callS (M1 := mJ1_charAt_3b067) (rest := []) dJ0_charAt_5068e_12 mlJ0_495 msJ1_charAt_3b067 rfl (Nat.le_of_ble_eq_true rfl) rfl (q_J1_charAt_3b067 d hi hk) eb_rok ?_
  rintro _ _ ⟨rfl, rfl⟩
  show eb_P _ _ 15 [(0, .ref (1000000 + i)), (1, .int (nI k))] (.int (z_ch i k) :: []) _ _
  refine ep_iret dJ0_charAt_5068e_15 rfl (sc_nar _) ?_
  exact ⟨rfl, rfl⟩
def z_ush (x y : Int32) : Int32 := (x.toUInt32 >>> (y.toUInt32 &&& Int32.toUInt32 31)).toInt32
def z_bc1 (x : Int32) : Int32 := x - (z_ush x 1 &&& 1431655765)
def z_bc2 (x : Int32) : Int32 := (x &&& 858993459) + (z_ush x 2 &&& 858993459)
def z_bc3 (x : Int32) : Int32 := x + z_ush x 4 &&& 252645135
def z_bc4 (x : Int32) : Int32 := x + z_ush x 8
def z_bc5 (x : Int32) : Int32 := x + z_ush x 16
def z_bc (x : Int32) : Int32 := z_bc5 (z_bc4 (z_bc3 (z_bc2 (z_bc1 x)))) &&& 63
theorem q_J6_bitCount_0f7a4 {σ : eb_S} (d : Nat) (x : Int32) : eb_Q mJ6_bitCount_0f7a4 d [.int x] σ (eb_r (z_bc x) σ) := by
  refine ep_meth pn_J.2.2.2 (Nat.le_of_ble_eq_true rfl) ?_
  show eb_P mJ6_bitCount_0f7a4 (d) 0 [(0, .int x)] [] σ _
  refine ep_iload_n (i := 0) dJ6_bitCount_0f7a4_0 rfl rfl ?_
  refine ep_iload_n (i := 0) dJ6_bitCount_0f7a4_1 rfl rfl ?_
  refine ep_iconst (v := 1) dJ6_bitCount_0f7a4_2 (by decide) ?_
  refine ep_iushr dJ6_bitCount_0f7a4_3 rfl ?_
  refine ep_ldcw (v := 1431655765) dJ6_bitCount_0f7a4_4 kcJ6_265 ?_
  refine ep_iand dJ6_bitCount_0f7a4_7 ?_
  refine ep_isub dJ6_bitCount_0f7a4_8 ?_
  refine ep_topi (fun y1 hy1 => ?_)
  refine ep_istore_n (l' := [(0, .int y1)]) dJ6_bitCount_0f7a4_9 rfl (by decide) rfl ?_
  refine ep_iload_n (i := 0) dJ6_bitCount_0f7a4_10 rfl rfl ?_
  refine ep_ldcw (v := 858993459) dJ6_bitCount_0f7a4_11 kcJ6_266 ?_
  refine ep_iand dJ6_bitCount_0f7a4_14 ?_
  refine ep_iload_n (i := 0) dJ6_bitCount_0f7a4_15 rfl rfl ?_
  refine ep_iconst (v := 2) dJ6_bitCount_0f7a4_16 (by decide) ?_
  refine ep_iushr dJ6_bitCount_0f7a4_17 rfl ?_
  refine ep_ldcw (v := 858993459) dJ6_bitCount_0f7a4_18 kcJ6_266 ?_
  refine ep_iand dJ6_bitCount_0f7a4_21 ?_
  refine ep_iadd dJ6_bitCount_0f7a4_22 ?_
  refine ep_topi (fun y2 hy2 => ?_)
  refine ep_istore_n (l' := [(0, .int y2)]) dJ6_bitCount_0f7a4_23 rfl (by decide) rfl ?_
  refine ep_iload_n (i := 0) dJ6_bitCount_0f7a4_24 rfl rfl ?_
  refine ep_iload_n (i := 0) dJ6_bitCount_0f7a4_25 rfl rfl ?_
  refine ep_iconst (v := 4) dJ6_bitCount_0f7a4_26 (by decide) ?_
  refine ep_iushr dJ6_bitCount_0f7a4_27 rfl ?_
  refine ep_iadd dJ6_bitCount_0f7a4_28 ?_
  refine ep_ldcw (v := 252645135) dJ6_bitCount_0f7a4_29 kcJ6_267 ?_
  refine ep_iand dJ6_bitCount_0f7a4_32 ?_
  refine ep_topi (fun y3 hy3 => ?_)
  refine ep_istore_n (l' := [(0, .int y3)]) dJ6_bitCount_0f7a4_33 rfl (by decide) rfl ?_
  refine ep_iload_n (i := 0) dJ6_bitCount_0f7a4_34 rfl rfl ?_
  refine ep_iload_n (i := 0) dJ6_bitCount_0f7a4_35 rfl rfl ?_
  refine ep_bipush (v := 8) dJ6_bitCount_0f7a4_36 (by decide) ?_
  refine ep_iushr dJ6_bitCount_0f7a4_38 rfl ?_
  refine ep_iadd dJ6_bitCount_0f7a4_39 ?_
  refine ep_topi (fun y4 hy4 => ?_)
  refine ep_istore_n (l' := [(0, .int y4)]) dJ6_bitCount_0f7a4_40 rfl (by decide) rfl ?_
  refine ep_iload_n (i := 0) dJ6_bitCount_0f7a4_41 rfl rfl ?_
  refine ep_iload_n (i := 0) dJ6_bitCount_0f7a4_42 rfl rfl ?_
  refine ep_bipush (v := 16) dJ6_bitCount_0f7a4_43 (by decide) ?_
  refine ep_iushr dJ6_bitCount_0f7a4_45 rfl ?_
  refine ep_iadd dJ6_bitCount_0f7a4_46 ?_
  refine ep_topi (fun y5 hy5 => ?_)
  refine ep_istore_n (l' := [(0, .int y5)]) dJ6_bitCount_0f7a4_47 rfl (by decide) rfl ?_
  refine ep_iload_n (i := 0) dJ6_bitCount_0f7a4_48 rfl rfl ?_
  refine ep_bipush (v := 63) dJ6_bitCount_0f7a4_49 (by decide) ?_
  refine ep_iand dJ6_bitCount_0f7a4_51 ?_
  refine ep_iret dJ6_bitCount_0f7a4_52 rfl rfl ?_
  exact ⟨rfl, by subst_vars; rfl⟩
theorem q_J1_canEncode_9a6ad {σ : eb_S} (d : Nat) (x : Int32) : eb_Q mJ1_canEncode_9a6ad d [.int x] σ (eb_b (0 ≤ x ∧ x ≤ 255) σ) := by
  refine ep_meth pn_J.2.1 (Nat.le_of_ble_eq_true rfl) ?_
  show eb_P mJ1_canEncode_9a6ad (d) 0 [(0, .int x)] [] σ _
  refine ep_iload_n (i := 0) dJ1_canEncode_9a6ad_0 rfl rfl ?_
  refine ep_if_lt (tgt := 15) dJ1_canEncode_9a6ad_1 (by decide) (fun c1 => ?_) (fun c1 => ?_)
  · skip
    refine ep_iconst (v := 0) dJ1_canEncode_9a6ad_15 (by decide) ?_
    refine ep_iret dJ1_canEncode_9a6ad_16 rfl rfl ?_
    exact ⟨rfl, Or.inr ⟨by simp only [Int32.lt_iff_toInt_lt, Int32.le_iff_toInt_le] at *; (try omega), rfl⟩⟩
  · skip
    refine ep_iload_n (i := 0) dJ1_canEncode_9a6ad_4 rfl rfl ?_
    refine ep_sipush (v := 255) dJ1_canEncode_9a6ad_5 (by decide) ?_
    refine ep_icmp_gt (tgt := 15) dJ1_canEncode_9a6ad_8 (by decide) (fun c2 => ?_) (fun c2 => ?_)
    · skip
      refine ep_iconst (v := 0) dJ1_canEncode_9a6ad_15 (by decide) ?_
      refine ep_iret dJ1_canEncode_9a6ad_16 rfl rfl ?_
      exact ⟨rfl, Or.inr ⟨by simp only [Int32.lt_iff_toInt_lt, Int32.le_iff_toInt_le] at *; (try omega), rfl⟩⟩
    · skip
      refine ep_iconst (v := 1) dJ1_canEncode_9a6ad_11 (by decide) ?_
      refine ep_goto (tgt := 16) dJ1_canEncode_9a6ad_12 (by decide) ?_
      refine ep_iret dJ1_canEncode_9a6ad_16 rfl rfl ?_
      exact ⟨rfl, Or.inl ⟨by simp only [Int32.lt_iff_toInt_lt, Int32.le_iff_toInt_le] at *; (try omega), rfl⟩⟩
