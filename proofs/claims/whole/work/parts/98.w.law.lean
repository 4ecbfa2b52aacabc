/-! the law's start, and its walk -/
set_option maxRecDepth 100000 in
theorem l_x0 {xs : Nat → Int32} {Js : Nat → Nat → Int32} (hsf : ∀ q, q < 5 ∨ 20 < q → Js q = i_t10b (z_zi (z_i0 xs) 0) q) : zIF Js 1000060 = xs := (hsf 1000060 (by omega)).trans rfl
set_option maxRecDepth 100000 in
theorem l_k0 (L : Nat) : (zKF (z_k0 L) 1000060).2 = L := rfl
set_option maxRecDepth 100000 in
theorem l_k5 (L : Nat) : (z_k0 L 1000050).2 = 5 := rfl
theorem l_m0 (xs : Nat → Int32) : z_i0 xs 1000050 0 = 9 ∧ z_i0 xs 1000050 1 = 5 ∧ z_i0 xs 1000050 2 = 1 ∧ z_i0 xs 1000050 3 = 5 ∧ z_i0 xs 1000050 4 = 9 := ⟨rfl, rfl, rfl, rfl, rfl⟩
theorem l_start (d : Nat) {L : Nat} (hL : L ≤ 2560) (xs : Nat → Int32) : eb_P mL_law (d + 401) 0 [(0, .ref 1000060)] [] (z_s0 L xs) (fun r τ => r = some (.int 1) ∧ τ.2.1.1 ≤ 601024 ∧ τ.2.1.2 ≤ 7293034) := by
  show eb_P mL_law (d + 401) 0 [(0, .ref 1000060)] [] (0, (0, 0), z_k0 L, z_i0 xs, fun _ _ => 0, fun _ _ => none) _
  refine ep_new (c := 10) (N := 18) dL_law_0 nlL_8 rfl (Nat.le_of_ble_eq_true rfl) (z_ok2 (by decide)) ?_
  show eb_P _ _ 3 [(0, .ref 1000060)] [.ref 0] (1, (1, 18), _, _, _, _) _
  refine ep_dup dL_law_3 rfl ?_
  refine ep_callI (i := 0) (M1 := mX10_init) (rest := [.ref 0]) dL_law_4 mlL_23 miX10_init rfl (Nat.le_of_ble_eq_true rfl) rfl (q_ini_t10 (d + 392) rfl) (fun _ _ _ => Or.inr (z_ok2 (n := 1) (by decide))) ?_
  rintro _ _ ⟨rfl, Js, rfl, hse, hsf⟩
  show eb_P _ _ 7 [(0, .ref 1000060)] [.ref 0] (112, (112, 2237), _, _, _, _) _
  refine ep_astore_n (i := 1) (l' := [(1, .ref 0), (0, .ref 1000060)]) dL_law_7 rfl (by decide) rfl ?_
  refine ep_new (c := 11) (N := 42) dL_law_8 nlL_24 rfl (Nat.le_of_ble_eq_true rfl) (z_ok2 (by decide)) ?_
  show eb_P _ _ 11 [(1, .ref 0), (0, .ref 1000060)] [.ref 112] (113, (113, 2279), _, _, _, _) _
  refine ep_dup dL_law_11 rfl ?_
  refine ep_callI (i := 112) (M1 := mX11_init) (rest := [.ref 112]) dL_law_12 mlL_26 miX11_init rfl (Nat.le_of_ble_eq_true rfl) rfl (q_ini_t11 (d + 399) (by rfl)) (fun _ _ _ => Or.inr (z_ok2 (n := 113) (by decide))) ?_
  rintro _ _ ⟨rfl, rfl⟩
  show eb_P _ _ 15 [(1, .ref 0), (0, .ref 1000060)] [.ref 112] (137, (137, 3791), _, _, _, _) _
  refine ep_astore_n (i := 2) (l' := [(2, .ref 112), (1, .ref 0), (0, .ref 1000060)]) dL_law_15 rfl (by decide) rfl ?_
  refine ep_iconst (v := 1) dL_law_16 (by decide) ?_
  refine ep_newa (t := 3) (N := 1) dL_law_17 rfl ac_long (Or.inr (Or.inr (Or.inr ⟨rfl, rfl⟩))) (by decide) (by decide) (by decide) (Nat.le_of_ble_eq_true rfl) (z_ok2 (by decide)) ?_
  show eb_P _ _ 19 [(2, .ref 112), (1, .ref 0), (0, .ref 1000060)] [.ref 137] (138, (138, 3792), zKF (z_k0 L), zIF Js, _, zRF (fun _ _ => none)) _
  refine ep_astore_n (i := 3) (l' := [(3, .ref 137), (2, .ref 112), (1, .ref 0), (0, .ref 1000060)]) dL_law_19 rfl (by decide) rfl ?_
  refine ep_iconst (v := nI (5 * 0)) dL_law_20 (by decide) ?_
  refine ep_istore (i := 4) (l' := [(4, .int (nI (5 * 0))), (3, .ref 137), (2, .ref 112), (1, .ref 0), (0, .ref 1000060)]) dL_law_21 (by decide) rfl ?_
  exact l_loop d (sl0 := (138, 3792)) (l_k0 L) hL (fun sl I L R h1 h2 => ⟨rfl, by show sl.1 ≤ 601024; have h1 : sl.1 ≤ 138 + 512 := h1; omega, by show sl.2 ≤ 7293034; have h2 : sl.2 ≤ 3792 + 3072 := h2; omega⟩) ⟨zC0 hse hsf (l_k5 L) (l_m0 xs), zM0, zOk0, _, zInv0 hse⟩ (l_x0 hsf)
theorem l_HV {L : Nat} (hL : L ≤ 2560) (xs : Nat → Int32) : ∃ τ : eb_S, eb_V mL_law 2000 0 [(0, .ref 1000060)] [] (z_s0 L xs) (some (.int 1)) τ ∧ τ.2.1.1 ≤ 601024 ∧ τ.2.1.2 ≤ 7293034 := by
  obtain ⟨r, τ, ⟨rfl, h1, h2⟩, hv⟩ := l_start 1599 hL xs
  exact ⟨τ, hv, h1, h2⟩
