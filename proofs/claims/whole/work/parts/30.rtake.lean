/-! the letters; Rule.open, lengthenNumber, close, takeThing, takeJoint -/
def z_li (c : Int32) : Int32 := if c = 103 then 0 else if c = 116 then 1 else if c = 107 then 2 else if c = 112 then 3 else if c = 108 then 4 else if c = 105 then 5 else if c = 110 then 6 else -1
theorem z_li8 : ∀ x, x < 256 → z_li (nI x).toInt8.toInt32 = z_li (nI x) := by decide +kernel
theorem z_c16 : ∀ x, x < 256 → ((nI x).toUInt32 % 65536).toInt32 = nI x := by decide +kernel
theorem q_J1_indexOfChar {σ : eb_S} (d : Nat) {x : Nat} (hx : x < 256) : eb_Q mJ1_indexOfChar_4cfef d [.ref (1000020 + 0), .int (nI x), .int 0, .int (nI 7)] σ (eb_r (z_li (nI x)) σ) := by
  refine ep_meth pn_J.2.1 (Nat.le_of_ble_eq_true rfl) ?_
  show eb_P _ d 0 [(0, .ref (1000020 + 0)), (1, .int (nI x)), (2, .int 0), (3, .int (nI 7))] [] σ _
  refine ep_eq (l2 := [(0, .ref (1000020 + 0)), (1, .int (nI x)), (2, .int 0), (3, .int 7)]) rfl rfl rfl rfl ?_
  refine ep_iload_n (i := 1) dJ1_indexOfChar_4cfef_0 rfl rfl ?_
  refine ep_i2b dJ1_indexOfChar_4cfef_1 rfl ?_
  refine ep_topi (fun b hb => ?_)
  refine ep_istore (l' := [(4, .int b), (0, .ref (1000020 + 0)), (1, .int (nI x)), (2, .int 0), (3, .int 7)]) dJ1_indexOfChar_4cfef_2 (by decide) rfl ?_
  refine ep_iload_n (i := 2) dJ1_indexOfChar_4cfef_4 rfl rfl ?_
  refine ep_istore (l' := [(5, .int 0), (4, .int b), (0, .ref (1000020 + 0)), (1, .int (nI x)), (2, .int 0), (3, .int 7)]) dJ1_indexOfChar_4cfef_5 (by decide) rfl ?_
  refine ep_iload (i := 5) dJ1_indexOfChar_4cfef_7 rfl ?_
  refine ep_iload_n (i := 3) dJ1_indexOfChar_4cfef_9 rfl rfl ?_
  refine ep_icmp_ge (tgt := 31) dJ1_indexOfChar_4cfef_10 (by decide) (fun c1 => absurd c1 (by decide)) (fun c1 => ?_)
  refine ep_aload_n (i := 0) dJ1_indexOfChar_4cfef_13 rfl rfl ?_
  refine ep_iload (i := 5) dJ1_indexOfChar_4cfef_14 rfl ?_
  refine ep_sbyteN (i := 0) (k := 0) dJ1_indexOfChar_4cfef_16 (by decide) (by decide) ?_
  refine ep_topE (y := 103) rfl ?_
  refine ep_iload (i := 4) dJ1_indexOfChar_4cfef_17 rfl ?_
  refine ep_icmp_ne (tgt := 25) dJ1_indexOfChar_4cfef_19 (by decide) (fun c2 => ?_) (fun c2 => ?_)
  · skip
    refine ep_iinc (v := 1) (l' := [(5, .int 1), (4, .int b), (0, .ref (1000020 + 0)), (1, .int (nI x)), (2, .int 0), (3, .int 7)]) dJ1_indexOfChar_4cfef_25 rfl (by decide) (by decide) rfl ?_
    refine ep_goto (tgt := 7) dJ1_indexOfChar_4cfef_28 (by decide) ?_
    refine ep_iload (i := 5) dJ1_indexOfChar_4cfef_7 rfl ?_
    refine ep_iload_n (i := 3) dJ1_indexOfChar_4cfef_9 rfl rfl ?_
    refine ep_icmp_ge (tgt := 31) dJ1_indexOfChar_4cfef_10 (by decide) (fun c3 => absurd c3 (by decide)) (fun c3 => ?_)
    refine ep_aload_n (i := 0) dJ1_indexOfChar_4cfef_13 rfl rfl ?_
    refine ep_iload (i := 5) dJ1_indexOfChar_4cfef_14 rfl ?_
    refine ep_sbyteN (i := 0) (k := 1) dJ1_indexOfChar_4cfef_16 (by decide) (by decide) ?_
    refine ep_topE (y := 116) rfl ?_
    refine ep_iload (i := 4) dJ1_indexOfChar_4cfef_17 rfl ?_
    refine ep_icmp_ne (tgt := 25) dJ1_indexOfChar_4cfef_19 (by decide) (fun c4 => ?_) (fun c4 => ?_)
    · skip
      refine ep_iinc (v := 2) (l' := [(5, .int 2), (4, .int b), (0, .ref (1000020 + 0)), (1, .int (nI x)), (2, .int 0), (3, .int 7)]) dJ1_indexOfChar_4cfef_25 rfl (by decide) (by decide) rfl ?_
      refine ep_goto (tgt := 7) dJ1_indexOfChar_4cfef_28 (by decide) ?_
      refine ep_iload (i := 5) dJ1_indexOfChar_4cfef_7 rfl ?_
      refine ep_iload_n (i := 3) dJ1_indexOfChar_4cfef_9 rfl rfl ?_
      refine ep_icmp_ge (tgt := 31) dJ1_indexOfChar_4cfef_10 (by decide) (fun c5 => absurd c5 (by decide)) (fun c5 => ?_)
      refine ep_aload_n (i := 0) dJ1_indexOfChar_4cfef_13 rfl rfl ?_
      refine ep_iload (i := 5) dJ1_indexOfChar_4cfef_14 rfl ?_
      refine ep_sbyteN (i := 0) (k := 2) dJ1_indexOfChar_4cfef_16 (by decide) (by decide) ?_
      refine ep_topE (y := 107) rfl ?_
      refine ep_iload (i := 4) dJ1_indexOfChar_4cfef_17 rfl ?_
      refine ep_icmp_ne (tgt := 25) dJ1_indexOfChar_4cfef_19 (by decide) (fun c6 => ?_) (fun c6 => ?_)
      · skip
        refine ep_iinc (v := 3) (l' := [(5, .int 3), (4, .int b), (0, .ref (1000020 + 0)), (1, .int (nI x)), (2, .int 0), (3, .int 7)]) dJ1_indexOfChar_4cfef_25 rfl (by decide) (by decide) rfl ?_
        refine ep_goto (tgt := 7) dJ1_indexOfChar_4cfef_28 (by decide) ?_
        refine ep_iload (i := 5) dJ1_indexOfChar_4cfef_7 rfl ?_
        refine ep_iload_n (i := 3) dJ1_indexOfChar_4cfef_9 rfl rfl ?_
        refine ep_icmp_ge (tgt := 31) dJ1_indexOfChar_4cfef_10 (by decide) (fun c7 => absurd c7 (by decide)) (fun c7 => ?_)
        refine ep_aload_n (i := 0) dJ1_indexOfChar_4cfef_13 rfl rfl ?_
        refine ep_iload (i := 5) dJ1_indexOfChar_4cfef_14 rfl ?_
        refine ep_sbyteN (i := 0) (k := 3) dJ1_indexOfChar_4cfef_16 (by decide) (by decide) ?_
        refine ep_topE (y := 112) rfl ?_
        refine ep_iload (i := 4) dJ1_indexOfChar_4cfef_17 rfl ?_
        refine ep_icmp_ne (tgt := 25) dJ1_indexOfChar_4cfef_19 (by decide) (fun c8 => ?_) (fun c8 => ?_)
        · skip
          refine ep_iinc (v := 4) (l' := [(5, .int 4), (4, .int b), (0, .ref (1000020 + 0)), (1, .int (nI x)), (2, .int 0), (3, .int 7)]) dJ1_indexOfChar_4cfef_25 rfl (by decide) (by decide) rfl ?_
          refine ep_goto (tgt := 7) dJ1_indexOfChar_4cfef_28 (by decide) ?_
          refine ep_iload (i := 5) dJ1_indexOfChar_4cfef_7 rfl ?_
          refine ep_iload_n (i := 3) dJ1_indexOfChar_4cfef_9 rfl rfl ?_
          refine ep_icmp_ge (tgt := 31) dJ1_indexOfChar_4cfef_10 (by decide) (fun c9 => absurd c9 (by decide)) (fun c9 => ?_)
          refine ep_aload_n (i := 0) dJ1_indexOfChar_4cfef_13 rfl rfl ?_
          refine ep_iload (i := 5) dJ1_indexOfChar_4cfef_14 rfl ?_
          refine ep_sbyteN (i := 0) (k := 4) dJ1_indexOfChar_4cfef_16 (by decide) (by decide) ?_
          refine ep_topE (y := 108) rfl ?_
          refine ep_iload (i := 4) dJ1_indexOfChar_4cfef_17 rfl ?_
          refine ep_icmp_ne (tgt := 25) dJ1_indexOfChar_4cfef_19 (by decide) (fun c10 => ?_) (fun c10 => ?_)
          · skip
            refine ep_iinc (v := 5) (l' := [(5, .int 5), (4, .int b), (0, .ref (1000020 + 0)), (1, .int (nI x)), (2, .int 0), (3, .int 7)]) dJ1_indexOfChar_4cfef_25 rfl (by decide) (by decide) rfl ?_
            refine ep_goto (tgt := 7) dJ1_indexOfChar_4cfef_28 (by decide) ?_
            refine ep_iload (i := 5) dJ1_indexOfChar_4cfef_7 rfl ?_
            refine ep_iload_n (i := 3) dJ1_indexOfChar_4cfef_9 rfl rfl ?_
            refine ep_icmp_ge (tgt := 31) dJ1_indexOfChar_4cfef_10 (by decide) (fun c11 => absurd c11 (by decide)) (fun c11 => ?_)
            refine ep_aload_n (i := 0) dJ1_indexOfChar_4cfef_13 rfl rfl ?_
            refine ep_iload (i := 5) dJ1_indexOfChar_4cfef_14 rfl ?_
            refine ep_sbyteN (i := 0) (k := 5) dJ1_indexOfChar_4cfef_16 (by decide) (by decide) ?_
            refine ep_topE (y := 105) rfl ?_
            refine ep_iload (i := 4) dJ1_indexOfChar_4cfef_17 rfl ?_
            refine ep_icmp_ne (tgt := 25) dJ1_indexOfChar_4cfef_19 (by decide) (fun c12 => ?_) (fun c12 => ?_)
            · skip
              refine ep_iinc (v := 6) (l' := [(5, .int 6), (4, .int b), (0, .ref (1000020 + 0)), (1, .int (nI x)), (2, .int 0), (3, .int 7)]) dJ1_indexOfChar_4cfef_25 rfl (by decide) (by decide) rfl ?_
              refine ep_goto (tgt := 7) dJ1_indexOfChar_4cfef_28 (by decide) ?_
              refine ep_iload (i := 5) dJ1_indexOfChar_4cfef_7 rfl ?_
              refine ep_iload_n (i := 3) dJ1_indexOfChar_4cfef_9 rfl rfl ?_
              refine ep_icmp_ge (tgt := 31) dJ1_indexOfChar_4cfef_10 (by decide) (fun c13 => absurd c13 (by decide)) (fun c13 => ?_)
              refine ep_aload_n (i := 0) dJ1_indexOfChar_4cfef_13 rfl rfl ?_
              refine ep_iload (i := 5) dJ1_indexOfChar_4cfef_14 rfl ?_
              refine ep_sbyteN (i := 0) (k := 6) dJ1_indexOfChar_4cfef_16 (by decide) (by decide) ?_
              refine ep_topE (y := 110) rfl ?_
              refine ep_iload (i := 4) dJ1_indexOfChar_4cfef_17 rfl ?_
              refine ep_icmp_ne (tgt := 25) dJ1_indexOfChar_4cfef_19 (by decide) (fun c14 => ?_) (fun c14 => ?_)
              · skip
                refine ep_iinc (v := 7) (l' := [(5, .int 7), (4, .int b), (0, .ref (1000020 + 0)), (1, .int (nI x)), (2, .int 0), (3, .int 7)]) dJ1_indexOfChar_4cfef_25 rfl (by decide) (by decide) rfl ?_
                refine ep_goto (tgt := 7) dJ1_indexOfChar_4cfef_28 (by decide) ?_
                refine ep_iload (i := 5) dJ1_indexOfChar_4cfef_7 rfl ?_
                refine ep_iload_n (i := 3) dJ1_indexOfChar_4cfef_9 rfl rfl ?_
                refine ep_icmp_ge (tgt := 31) dJ1_indexOfChar_4cfef_10 (by decide) (fun c15 => ?_) (fun c15 => absurd (by decide) c15)
                refine ep_iconst (v := (-1)) dJ1_indexOfChar_4cfef_31 (by decide) ?_
                refine ep_iret dJ1_indexOfChar_4cfef_32 rfl rfl ?_
                exact ⟨rfl, by rw [← z_li8 x hx, ← hb]; clear hb; unfold z_li; (repeat' split) <;> first | rfl | (exfalso; simp_all)⟩
              · skip
                refine ep_iload (i := 5) dJ1_indexOfChar_4cfef_22 rfl ?_
                refine ep_iret dJ1_indexOfChar_4cfef_24 rfl rfl ?_
                exact ⟨rfl, by rw [← z_li8 x hx, ← hb]; clear hb; unfold z_li; (repeat' split) <;> first | rfl | (exfalso; simp_all)⟩
            · skip
              refine ep_iload (i := 5) dJ1_indexOfChar_4cfef_22 rfl ?_
              refine ep_iret dJ1_indexOfChar_4cfef_24 rfl rfl ?_
              exact ⟨rfl, by rw [← z_li8 x hx, ← hb]; clear hb; unfold z_li; (repeat' split) <;> first | rfl | (exfalso; simp_all)⟩
          · skip
            refine ep_iload (i := 5) dJ1_indexOfChar_4cfef_22 rfl ?_
            refine ep_iret dJ1_indexOfChar_4cfef_24 rfl rfl ?_
            exact ⟨rfl, by rw [← z_li8 x hx, ← hb]; clear hb; unfold z_li; (repeat' split) <;> first | rfl | (exfalso; simp_all)⟩
        · skip
          refine ep_iload (i := 5) dJ1_indexOfChar_4cfef_22 rfl ?_
          refine ep_iret dJ1_indexOfChar_4cfef_24 rfl rfl ?_
          exact ⟨rfl, by rw [← z_li8 x hx, ← hb]; clear hb; unfold z_li; (repeat' split) <;> first | rfl | (exfalso; simp_all)⟩
      · skip
        refine ep_iload (i := 5) dJ1_indexOfChar_4cfef_22 rfl ?_
        refine ep_iret dJ1_indexOfChar_4cfef_24 rfl rfl ?_
        exact ⟨rfl, by rw [← z_li8 x hx, ← hb]; clear hb; unfold z_li; (repeat' split) <;> first | rfl | (exfalso; simp_all)⟩
    · skip
      refine ep_iload (i := 5) dJ1_indexOfChar_4cfef_22 rfl ?_
      refine ep_iret dJ1_indexOfChar_4cfef_24 rfl rfl ?_
      exact ⟨rfl, by rw [← z_li8 x hx, ← hb]; clear hb; unfold z_li; (repeat' split) <;> first | rfl | (exfalso; simp_all)⟩
  · skip
    refine ep_iload (i := 5) dJ1_indexOfChar_4cfef_22 rfl ?_
    refine ep_iret dJ1_indexOfChar_4cfef_24 rfl rfl ?_
    exact ⟨rfl, by rw [← z_li8 x hx, ← hb]; clear hb; unfold z_li; (repeat' split) <;> first | rfl | (exfalso; simp_all)⟩
theorem q_J1_indexOf_4cfef {σ : eb_S} (d : Nat) {x : Nat} (hx : x < 256) : eb_Q mJ1_indexOf_4cfef (d + 1) [.ref (1000020 + 0), .int (nI x), .int 0, .int (nI 7)] σ (eb_r (z_li (nI x)) σ) := by
  refine ep_meth pn_J.2.1 (Nat.le_of_ble_eq_true rfl) ?_
  show eb_P mJ1_indexOf_4cfef (d + 1) 0 [(0, .ref (1000020 + 0)), (1, .int (nI x)), (2, .int 0), (3, .int (nI 7))] [] σ _
  refine ep_iload_n (i := 1) dJ1_indexOf_4cfef_0 rfl rfl ?_
  refine ep_callS (M1 := mJ1_canEncode_9a6ad) (rest := []) dJ1_indexOf_4cfef_1 mlJ1_88 msJ1_canEncode_9a6ad rfl (Nat.le_of_ble_eq_true rfl) rfl (eb_b1 ⟨nI_pos' (by omega), nI_le (a := x) (b := 255) (by omega) (by decide)⟩ (q_J1_canEncode_9a6ad d (nI x))) eb_rok ?_
  rintro _ _ ⟨rfl, rfl⟩
  show eb_P _ _ 4 [(0, .ref (1000020 + 0)), (1, .int (nI x)), (2, .int 0), (3, .int (nI 7))] (.int 1 :: []) _ _
  refine ep_if_ne (tgt := 9) dJ1_indexOf_4cfef_4 (by decide) (fun c1 => ?_) (fun c1 => absurd (by decide) c1)
  refine ep_iload_n (i := 2) dJ1_indexOf_4cfef_9 rfl rfl ?_
  refine ep_iconst (v := 0) dJ1_indexOf_4cfef_10 (by decide) ?_
  refine ep_max dJ1_indexOf_4cfef_11 xmJ1_92 (Nat.le_of_ble_eq_true rfl) ?_
  refine ep_topE (y := 0) (by decide) ?_
  refine ep_istore_n (l' := [(2, .int 0), (0, .ref (1000020 + 0)), (1, .int (nI x)), (3, .int (nI 7))]) dJ1_indexOf_4cfef_14 rfl (by decide) rfl ?_
  refine ep_iload_n (i := 3) dJ1_indexOf_4cfef_15 rfl rfl ?_
  refine ep_aload_n (i := 0) dJ1_indexOf_4cfef_16 rfl rfl ?_
  refine ep_slen (i := 0) (v := nI (eb_len.getD 0 0)) dJ1_indexOf_4cfef_17 (by decide) rfl ?_
  refine ep_min dJ1_indexOf_4cfef_18 xmJ1_38 (Nat.le_of_ble_eq_true rfl) ?_
  refine ep_topE (y := nI 7) (by decide) ?_
  refine ep_istore_n (l' := [(3, .int (nI 7)), (2, .int 0), (0, .ref (1000020 + 0)), (1, .int (nI x))]) dJ1_indexOf_4cfef_21 rfl (by decide) rfl ?_
  refine ep_iload_n (i := 2) dJ1_indexOf_4cfef_22 rfl rfl ?_
  refine ep_iload_n (i := 3) dJ1_indexOf_4cfef_23 rfl rfl ?_
  refine ep_icmp_lt (tgt := 29) dJ1_indexOf_4cfef_24 (by decide) (fun c2 => ?_) (fun c2 => absurd (by decide) c2)
  refine ep_aload_n (i := 0) dJ1_indexOf_4cfef_29 rfl rfl ?_
  refine ep_iload_n (i := 1) dJ1_indexOf_4cfef_30 rfl rfl ?_
  refine ep_iload_n (i := 2) dJ1_indexOf_4cfef_31 rfl rfl ?_
  refine ep_iload_n (i := 3) dJ1_indexOf_4cfef_32 rfl rfl ?_
  refine ep_callS (M1 := mJ1_indexOfChar_4cfef) (rest := []) dJ1_indexOf_4cfef_33 mlJ1_95 msJ1_indexOfChar_4cfef rfl (Nat.le_of_ble_eq_true rfl) rfl (q_J1_indexOfChar d hx) eb_rok ?_
  rintro _ _ ⟨rfl, rfl⟩
  show eb_P _ _ 36 [(3, .int (nI 7)), (2, .int 0), (0, .ref (1000020 + 0)), (1, .int (nI x))] (.int (z_li (nI x)) :: []) _ _
  refine ep_iret dJ1_indexOf_4cfef_36 rfl rfl ?_
  exact ⟨rfl, rfl⟩
theorem q_J0_indexOf_7cf53 {σ : eb_S} (d : Nat) {x : Nat} (hx : x < 256) : eb_Q mJ0_indexOf_7cf53 (d + 2) [.ref (1000000 + 0), .int (nI x), .int 0] σ (eb_r (z_li (nI x)) σ) := by
  refine ep_meth pn_J.1 (Nat.le_of_ble_eq_true rfl) ?_
  show eb_P mJ0_indexOf_7cf53 (d + 2) 0 [(0, .ref (1000000 + 0)), (1, .int (nI x)), (2, .int 0)] [] σ _
  refine ep_aload_n (i := 0) dJ0_indexOf_7cf53_0 rfl rfl ?_
  refine ep_callT (M1 := mJ0_isLatin1_aae02) (i := 0) (rest := []) (by decide) rfl dJ0_indexOf_7cf53_1 mkJ0_492 mcJ0_isLatin1_aae02 mtJ0_isLatin1_aae02 rfl (Nat.le_of_ble_eq_true rfl) rfl (q_J0_isLatin1_aae02 (i := 0) (d + 1) (by decide)) eb_rok ?_
  rintro _ _ ⟨rfl, rfl⟩
  show eb_P _ _ 4 [(0, .ref (1000000 + 0)), (1, .int (nI x)), (2, .int 0)] (.int 1 :: []) _ _
  refine ep_if_eq (tgt := 23) dJ0_indexOf_7cf53_4 (by decide) (fun c1 => absurd c1 (by decide)) (fun c1 => ?_)
  refine ep_aload_n (i := 0) dJ0_indexOf_7cf53_7 rfl rfl ?_
  refine ep_svalue (i := 0) dJ0_indexOf_7cf53_8 xlJ0_9 (by decide) ?_
  refine ep_iload_n (i := 1) dJ0_indexOf_7cf53_11 rfl rfl ?_
  refine ep_iload_n (i := 2) dJ0_indexOf_7cf53_12 rfl rfl ?_
  refine ep_aload_n (i := 0) dJ0_indexOf_7cf53_13 rfl rfl ?_
  refine ep_callT (M1 := mJ0_length_8abf5) (i := 0) (rest := [.int 0, .int (nI x), .ref (1000020 + 0)]) (by decide) rfl dJ0_indexOf_7cf53_14 mkJ0_505 mcJ0_length_8abf5 mtJ0_length_8abf5 rfl (Nat.le_of_ble_eq_true rfl) rfl (q_J0_length_8abf5 (i := 0) d (by decide)) eb_rok ?_
  rintro _ _ ⟨rfl, rfl⟩
  show eb_P _ _ 17 [(0, .ref (1000000 + 0)), (1, .int (nI x)), (2, .int 0)] (.int (nI (z_ln 0)) :: [.int 0, .int (nI x), .ref (1000020 + 0)]) _ _
  refine ep_callS (M1 := mJ1_indexOf_4cfef) (rest := []) dJ0_indexOf_7cf53_17 mlJ0_637 msJ1_indexOf_4cfef rfl (Nat.le_of_ble_eq_true rfl) rfl (q_J1_indexOf_4cfef d hx) eb_rok ?_
  rintro _ _ ⟨rfl, rfl⟩
  show eb_P _ _ 20 [(0, .ref (1000000 + 0)), (1, .int (nI x)), (2, .int 0)] (.int (z_li (nI x)) :: []) _ _
  refine ep_goto (tgt := 36) dJ0_indexOf_7cf53_20 (by decide) ?_
  refine ep_iret dJ0_indexOf_7cf53_36 rfl rfl ?_
  exact ⟨rfl, rfl⟩
theorem q_J0_indexOf_0f7a4 {σ : eb_S} (d : Nat) {x : Nat} (hx : x < 256) : eb_Q mJ0_indexOf_0f7a4 (d + 3) [.ref (1000000 + 0), .int (nI x)] σ (eb_r (z_li (nI x)) σ) := by
  refine ep_meth pn_J.1 (Nat.le_of_ble_eq_true rfl) ?_
  show eb_P mJ0_indexOf_0f7a4 (d + 3) 0 [(0, .ref (1000000 + 0)), (1, .int (nI x))] [] σ _
  refine ep_aload_n (i := 0) dJ0_indexOf_0f7a4_0 rfl rfl ?_
  refine ep_iload_n (i := 1) dJ0_indexOf_0f7a4_1 rfl rfl ?_
  refine ep_iconst (v := 0) dJ0_indexOf_0f7a4_2 (by decide) ?_
  refine ep_callT (M1 := mJ0_indexOf_7cf53) (i := 0) (rest := []) (by decide) rfl dJ0_indexOf_0f7a4_3 mkJ0_633 mcJ0_indexOf_7cf53 mtJ0_indexOf_7cf53 rfl (Nat.le_of_ble_eq_true rfl) rfl (q_J0_indexOf_7cf53 d hx) eb_rok ?_
  rintro _ _ ⟨rfl, rfl⟩
  show eb_P _ _ 6 [(0, .ref (1000000 + 0)), (1, .int (nI x))] (.int (z_li (nI x)) :: []) _ _
  refine ep_iret dJ0_indexOf_0f7a4_6 rfl rfl ?_
  exact ⟨rfl, rfl⟩
