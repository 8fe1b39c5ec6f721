set_option maxHeartbeats 4000000 in
set_option maxRecDepth 100000 in
theorem c_X_take (l : Launch) (dC : Nat → ClassId) (dI : Nat → Nat → Nat) (h0 q0 q1 sz n k : Nat) (cA cB : ClassId) (T G T0 G0 : Nat → Int32) (hT : ∀ j, j < n → T j = T0 j) (hG : ∀ j, j < k → G j = G0 j) (hn : n ≤ 3000) (hk : k ≤ 40) (x : Int32) : Met l yX0_take wsX0_take ({ frames := 2, cells := 0, slots := 0, locals := 44 } : Room) (va_Pc [.ref h0, .int x] (fun U => U.heap.size = sz ∧ va_P (dC, dI) vwCl [(h0, .inr (0, [.ref q0, .ref q1, .int (nI n), .int (nI k)])), (q0, .inl (cA, 3000, .inl T)), (q1, .inl (cB, 40, .inl G))] U.heap ∧ va_K (dC, dI) vwCl [(cA, .int), (cB, .int)] U ∧ va_D (fun _ => True) [(h0, .inr (0, [.ref q0, .ref q1, .int (nI n), .int (nI k)])), (q0, .inl (cA, 3000, .inl T)), (q1, .inl (cB, 40, .inl G))])) (va_Qi (fun (r : Int32) (u : tS) => r = (sp_take x n T0 k G0).1 ∧ tE u (sp_take x n T0 k G0).2) (at_X dC dI (va_A [(h0, .inr (0, [.ref q0, .ref q1, .int (nI n), .int (nI k)])), (q0, .inl (cA, 3000, .inl T)), (q1, .inl (cB, 40, .inl G))] sz) h0 q0 q1 cA cB) (va_A [(h0, .inr (0, [.ref q0, .ref q1, .int (nI n), .int (nI k)])), (q0, .inl (cA, 3000, .inl T)), (q1, .inl (cB, 40, .inl G))] sz)) 0 0 (va_A [(h0, .inr (0, [.ref q0, .ref q1, .int (nI n), .int (nI k)])), (q0, .inl (cA, 3000, .inl T)), (q1, .inl (cB, 40, .inl G))] sz) := by
  refine Met.ofW (cc := cX0_take) (maxL := 3) (ret := (some .int)) (by decide) rfl ?_
  intro p e s m args below meth c s₁ B hml hv
  obtain ⟨rfl, hsz, hP, hK, hD0⟩ := hv
  have hx := B.exec
  have hb := B.bytes
  have hr := B.returns
  have hts := atoms_spec (ws := wsX0_take) B.pre
  have hown : s.vm.findClass RX0 = some m.cls := findClass_of_methodNamed B.named
  have hlocks := B.notSynchronized
  subst hsz
  have hD := hD0.self (sz := s.heap.size)
  generalize hAe : va_A [(h0, .inr (0, [.ref q0, .ref q1, .int (nI n), .int (nI k)])), (q0, .inl (cA, 3000, .inl T)), (q1, .inl (cB, 40, .inl G))] s.heap.size = A at hD ⊢
  have hA : ∀ q : Nat, s.heap.size ≤ q → A q := fun q h => by rw [← hAe]; exact Or.inr h
  have hS : va_S A s.heap s.heap [] := va_S.rf
  have hP : va_P (dC, dI) vwCl [(h0, .inr (0, [.ref q0, .ref q1, .int (nI n), .int (nI k)])), (q0, .inl (cA, 3000, .inl T)), (q1, .inl (cB, 40, .inl G))] s.heap := hP
  have hinX0 : ∀ w ∈ u_ws RX0 TX0 4, w ∈ wsX0_take := fun w h => List.mem_cons_of_mem _ (inX0 w h)
  have hl := lv_entry ([.ref h0, .int x]) (n := 3) (Nat.le_of_ble_eq_true rfl)
  rw [lg_entry_eq]
  generalize (lg_sl ([.ref h0, .int x]) ++ List.replicate (3 - (lg_sl ([.ref h0, .int x])).length) Slot.unset).toArray = ls at hl ⊢
  have hl : lv_has ls 3 [(0, .ref h0), (1, .int x)] := hl
  refine tl_q (fun Q hQ => ?_)
  refine lv_aload_n hx hb dX0_take_0 rfl (lv_at hl 0 rfl) ?_
  refine lv_iload_n hx hb dX0_take_1 rfl (lv_at hl 1 rfl) ?_
  refine vp_callSi ((va_runV (As := [.int x]) (rest := []) ⟨hx, hb, hml, hown, hts⟩ (c_X_isPlace l dC dI h0 q0 q1 n k cA cB T G T0 G0 hT hG hn hk x) (cwV 1 hts (gV_ (fun w h => List.mem_cons_of_mem _ h) k177 k179 k7 k21 k180) rfl rfl rfl (by decide +kernel) ⟨Nat.le_of_ble_eq_true rfl, Nat.le_of_ble_eq_true rfl⟩) ⟨fun a U g mk q => by obtain ⟨q0, qP, qK⟩ := q; exact ⟨q0, qP, va_K.moved (u := U) (U := U.calling g mk a) (Vm.Alike.refl U.vm) qK⟩, va_recv hK hP (ci := 0) (q0 := 0) rfl rfl, fun U hU hW => ⟨rfl, by rw [hU]; exact hP, va_K.moved hW.alike hK⟩⟩ rfl rfl hl.1 rfl (lv_room (Nat.le_of_ble_eq_true rfl)) dX0_take_2 ⟨Nat.le_of_ble_eq_true rfl, Nat.le_of_ble_eq_true rfl⟩).run) (fun r2 w2 => ?_)
  try dsimp only at w2
  refine lv_if_ne (tgt := 10) hx hb dX0_take_5 rfl (fun h5 => ?_) (fun h5 => ?_)
  · skip
    have h5 := (tl_b1 w2).mp h5
    obtain ⟨a, lta, rfl⟩ := tl_of (x := x) (by omega)
    have ea : (nI a).toInt = ((a : Nat) : Int) := nI_toInt lta
    refine lv_aload_n hx hb dX0_take_10 rfl (lv_at hl 0 rfl) ?_
    refine va_get (D := (dC, dI)) (ci := 0) (v := .ref q0) (C := RX0) (T := TX0) (N := 4) hx hb hts hinX0 hown hK hP 0 rfl rfl 0 (by decide) (hts _ (List.mem_cons_of_mem _ k37)) (fun _ h9 => h9) rfl dX0_take_11 ?_
    refine lv_iload_n hx hb dX0_take_14 rfl (lv_at hl 1 rfl) ?_
    refine tl_iald (v := T0 a) hx hb hK hP 1 0 rfl rfl (by omega) (by decide) (hT _ (by omega)) dX0_take_15 ?_
    refine lv_istore_n (lv' := [(2, .int (T0 a)), (0, .ref h0), (1, .int (nI a))]) hx hb dX0_take_16 rfl hl (by decide) rfl (fun ls hl => ?_)
    refine lv_aload_n hx hb dX0_take_17 rfl (lv_at hl 1 rfl) ?_
    refine lv_iload_n hx hb dX0_take_18 rfl (lv_at hl 2 rfl) ?_
    refine lv_iload_n hx hb dX0_take_19 rfl (lv_at hl 2 rfl) ?_
    refine lv_iconst (v := nI 1) hx hb dX0_take_20 (by decide) ?_
    refine lv_iadd hx hb dX0_take_21 ?_
    refine tl_top (nI_add _ _) ?_
    refine lv_iconst (v := nI 0) hx hb dX0_take_22 (by decide) ?_
    have hPc := hP.sub (ws' := [(h0, .inr (0, [.ref q0, .ref q1, .int (nI n), .int (nI k)])), (q0, .inl (cA, 3000, .inl T)), (q1, .inl (cB, 40, .inl G))]) [0, 1, 2] rfl
    have hDc := hD.sub (ws' := [(h0, .inr (0, [.ref q0, .ref q1, .int (nI n), .int (nI k)])), (q0, .inl (cA, 3000, .inl T)), (q1, .inl (cB, 40, .inl G))]) [0, 1, 2] (by decide) rfl
    have hKc := hK
    have hFc := va_free (wc := [(h0, .inr (0, [.ref q0, .ref q1, .int (nI n), .int (nI k)])), (q0, .inl (cA, 3000, .inl T)), (q1, .inl (cB, 40, .inl G))]) hD hS hA [0, 1, 2] rfl
    refine va_callv (va_runV (As := [.int (nI a), .int (nI (a + 1)), .int (nI 0)]) (rest := []) ⟨hx, hb, hml, hown, hts⟩ (c_X_makeGap l dC dI h0 q0 q1 s.heap.size n k cA cB T G T0 G0 hT hG hn hk a (a + 1) 0 (by omega) (by omega) (by omega)) (cwV 3 hts (gV_ (fun w h => List.mem_cons_of_mem _ h) k81 k83 k2 k21 k84) rfl rfl rfl (by decide +kernel) ⟨Nat.le_of_ble_eq_true rfl, Nat.le_of_ble_eq_true rfl⟩) ⟨fun a U g mk q => by obtain ⟨q0, q1, qP, qK, qD⟩ := q; exact ⟨q0, q1, qP, va_K.moved (u := U) (U := U.calling g mk a) (Vm.Alike.refl U.vm) qK, qD⟩, va_recv hKc hPc (ci := 0) (q0 := 0) rfl rfl, fun U hU hW => ⟨rfl, by rw [hU], by rw [hU]; exact hPc, va_K.moved hW.alike hKc, hDc.weaken (fun _ _ _ _ => trivial)⟩⟩ rfl rfl hl.1 rfl (lv_room (Nat.le_of_ble_eq_true rfl)) dX0_take_23 ⟨Nat.le_of_ble_eq_true rfl, Nat.le_of_ble_eq_true rfl⟩) hS (fun q _ h => hFc q h) hFc (fun u23 t H locs ht hvm w23 hB hz1 hk1 hS => ?_)
    try dsimp only at w23
    subst w23
    obtain ⟨hP1, hK1, hD1⟩ := hB
    rw [ht] at hP1
    obtain ⟨hP, hD⟩ := va_join (wr := []) (w1 := [(h0, .inr (0, [.ref q0, .ref q1, .int (nI (n - ((a + 1) - a) + 0)), .int (nI k)])), (q0, .inl (cA, 3000, .inl (va_cpy T T (a + 1) (a + 0) (n - (a + 1))))), (q1, .inl (cB, 40, .inl G))]) hP hD [0, 1, 2] [] rfl rfl (by decide) (by decide) hk1 hFc hP1 hD1
    have hP : va_P (dC, dI) vwCl [(h0, .inr (0, [.ref q0, .ref q1, .int (nI (n - ((a + 1) - a) + 0)), .int (nI k)])), (q0, .inl (cA, 3000, .inl (va_cpy T T (a + 1) (a + 0) (n - (a + 1))))), (q1, .inl (cB, 40, .inl G))] H := hP
    have hD : va_D A [(h0, .inr (0, [.ref q0, .ref q1, .int (nI (n - ((a + 1) - a) + 0)), .int (nI k)])), (q0, .inl (cA, 3000, .inl (va_cpy T T (a + 1) (a + 0) (n - (a + 1))))), (q1, .inl (cB, 40, .inl G))] := hD
    refine lv_iload_n hx hb dX0_take_26 rfl (lv_at hl 0 rfl) ?_
    subst hQ
    exact W.iret (v := T0 a) hx hb hr (fun t ht hW => ⟨⟨T0 a, (n - ((a + 1) - a) + 0, va_cpy T T (a + 1) (a + 0) (n - (a + 1)), k, G), rfl, (by rw [(show sp_take (nI a) n T0 k G0 = (T0 a, (n - 1, tl_rep T0 a (a + 1) G0 0, k, G0)) from (by unfold sp_take; (try simp only [nI_clamp lta]); (repeat' split) <;> first | rfl | (exfalso; omega)))]; exact ⟨rfl, pu_take hT hG hn hk (by omega)⟩), by rw [ht]; exact hP, va_K.moved hW.alike hK, hD⟩, hS.F ht⟩) hS.2.2 dX0_take_27
  · skip
    have h5 := (tl_b0 w2).mp h5
    refine lv_iconst (v := (-1 : Int32)) hx hb dX0_take_8 (by decide) ?_
    subst hQ
    exact W.iret (v := (-1 : Int32)) hx hb hr (fun t ht hW => ⟨⟨(-1 : Int32), (n, T, k, G), rfl, (by rw [(show sp_take x n T0 k G0 = ((-1 : Int32), (n, T0, k, G0)) from (by unfold sp_take; (repeat' split) <;> first | rfl | (exfalso; omega)))]; exact ⟨rfl, tE_mk hT hG hn hk⟩), by rw [ht]; exact hP, va_K.moved hW.alike hK, hD⟩, hS.F ht⟩) hS.2.2 dX0_take_9
set_option maxHeartbeats 4000000 in
set_option maxRecDepth 100000 in
theorem c_X_set (l : Launch) (dC : Nat → ClassId) (dI : Nat → Nat → Nat) (h0 q0 q1 sz n k : Nat) (cA cB : ClassId) (T G T0 G0 : Nat → Int32) (hT : ∀ j, j < n → T j = T0 j) (hG : ∀ j, j < k → G j = G0 j) (hn : n ≤ 3000) (hk : k ≤ 40) (x y : Int32) : Met l yX0_set wsX0_set ({ frames := 1, cells := 0, slots := 0, locals := 21 } : Room) (va_Pc [.ref h0, .int x, .int y] (fun U => U.heap.size = sz ∧ va_P (dC, dI) vwCl [(h0, .inr (0, [.ref q0, .ref q1, .int (nI n), .int (nI k)])), (q0, .inl (cA, 3000, .inl T)), (q1, .inl (cB, 40, .inl G))] U.heap ∧ va_K (dC, dI) vwCl [(cA, .int), (cB, .int)] U ∧ va_D (fun _ => True) [(h0, .inr (0, [.ref q0, .ref q1, .int (nI n), .int (nI k)])), (q0, .inl (cA, 3000, .inl T)), (q1, .inl (cB, 40, .inl G))])) (va_Qi (fun (r : Int32) (u : tS) => r = (sp_set x y n T0 k G0).1 ∧ tE u (sp_set x y n T0 k G0).2) (at_X dC dI (va_A [(h0, .inr (0, [.ref q0, .ref q1, .int (nI n), .int (nI k)])), (q0, .inl (cA, 3000, .inl T)), (q1, .inl (cB, 40, .inl G))] sz) h0 q0 q1 cA cB) (va_A [(h0, .inr (0, [.ref q0, .ref q1, .int (nI n), .int (nI k)])), (q0, .inl (cA, 3000, .inl T)), (q1, .inl (cB, 40, .inl G))] sz)) 0 0 (va_A [(h0, .inr (0, [.ref q0, .ref q1, .int (nI n), .int (nI k)])), (q0, .inl (cA, 3000, .inl T)), (q1, .inl (cB, 40, .inl G))] sz) := by
  refine Met.ofW (cc := cX0_set) (maxL := 4) (ret := (some .int)) (by decide) rfl ?_
  intro p e s m args below meth c s₁ B hml hv
  obtain ⟨rfl, hsz, hP, hK, hD0⟩ := hv
  have hx := B.exec
  have hb := B.bytes
  have hr := B.returns
  have hts := atoms_spec (ws := wsX0_set) B.pre
  have hown : s.vm.findClass RX0 = some m.cls := findClass_of_methodNamed B.named
  have hlocks := B.notSynchronized
  subst hsz
  have hD := hD0.self (sz := s.heap.size)
  generalize hAe : va_A [(h0, .inr (0, [.ref q0, .ref q1, .int (nI n), .int (nI k)])), (q0, .inl (cA, 3000, .inl T)), (q1, .inl (cB, 40, .inl G))] s.heap.size = A at hD ⊢
  have hA : ∀ q : Nat, s.heap.size ≤ q → A q := fun q h => by rw [← hAe]; exact Or.inr h
  have hS : va_S A s.heap s.heap [] := va_S.rf
  have hP : va_P (dC, dI) vwCl [(h0, .inr (0, [.ref q0, .ref q1, .int (nI n), .int (nI k)])), (q0, .inl (cA, 3000, .inl T)), (q1, .inl (cB, 40, .inl G))] s.heap := hP
  have hinX0 : ∀ w ∈ u_ws RX0 TX0 4, w ∈ wsX0_set := fun w h => List.mem_cons_of_mem _ (inX0 w h)
  have hl := lv_entry ([.ref h0, .int x, .int y]) (n := 4) (Nat.le_of_ble_eq_true rfl)
  rw [lg_entry_eq]
  generalize (lg_sl ([.ref h0, .int x, .int y]) ++ List.replicate (4 - (lg_sl ([.ref h0, .int x, .int y])).length) Slot.unset).toArray = ls at hl ⊢
  have hl : lv_has ls 4 [(0, .ref h0), (1, .int x), (2, .int y)] := hl
  refine tl_q (fun Q hQ => ?_)
  refine lv_aload_n hx hb dX0_set_0 rfl (lv_at hl 0 rfl) ?_
  refine lv_iload_n hx hb dX0_set_1 rfl (lv_at hl 1 rfl) ?_
  refine vp_callSi ((va_runV (As := [.int x]) (rest := []) ⟨hx, hb, hml, hown, hts⟩ (c_X_isPlace l dC dI h0 q0 q1 n k cA cB T G T0 G0 hT hG hn hk x) (cwV 1 hts (gV_ (fun w h => List.mem_cons_of_mem _ h) k177 k179 k7 k21 k180) rfl rfl rfl (by decide +kernel) ⟨Nat.le_of_ble_eq_true rfl, Nat.le_of_ble_eq_true rfl⟩) ⟨fun a U g mk q => by obtain ⟨q0, qP, qK⟩ := q; exact ⟨q0, qP, va_K.moved (u := U) (U := U.calling g mk a) (Vm.Alike.refl U.vm) qK⟩, va_recv hK hP (ci := 0) (q0 := 0) rfl rfl, fun U hU hW => ⟨rfl, by rw [hU]; exact hP, va_K.moved hW.alike hK⟩⟩ rfl rfl hl.1 rfl (lv_room (Nat.le_of_ble_eq_true rfl)) dX0_set_2 ⟨Nat.le_of_ble_eq_true rfl, Nat.le_of_ble_eq_true rfl⟩).run) (fun r2 w2 => ?_)
  try dsimp only at w2
  refine lv_if_eq (tgt := 16) hx hb dX0_set_5 rfl (fun h5 => ?_) (fun h5 => ?_)
  · skip
    have h5 := (tl_b0 w2).mp h5
    refine lv_iconst (v := (-1 : Int32)) hx hb dX0_set_16 (by decide) ?_
    subst hQ
    exact W.iret (v := (-1 : Int32)) hx hb hr (fun t ht hW => ⟨⟨(-1 : Int32), (n, T, k, G), rfl, (by rw [(show sp_set x y n T0 k G0 = ((-1 : Int32), (n, T0, k, G0)) from (by unfold sp_set; (repeat' split) <;> first | rfl | (exfalso; omega)))]; exact ⟨rfl, tE_mk hT hG hn hk⟩), by rw [ht]; exact hP, va_K.moved hW.alike hK, hD⟩, hS.F ht⟩) hS.2.2 dX0_set_17
  · skip
    have h5 := (tl_b1 w2).mp h5
    refine lv_iload_n hx hb dX0_set_8 rfl (lv_at hl 2 rfl) ?_
    refine lv_i2l hx hb dX0_set_9 rfl ?_
    have ea10_0 : y.toInt64.toInt = y.toInt := ((Int32.toInt_toInt64 _).trans rfl)
    refine vp_callSi ((va_runS (As := [.long y.toInt64]) (rest := []) ⟨hx, hb, hml, hown, hts⟩ (c_X_isSign l y.toInt64) (va_cwS 1 hts (gS_ (fun w h => List.mem_cons_of_mem _ h) k55 k56 k21 k57) rfl rfl rfl (by decide +kernel) ⟨Nat.le_of_ble_eq_true rfl, Nat.le_of_ble_eq_true rfl⟩) ⟨fun a U g mk q => q, fun U hU hW => ⟨rfl, trivial⟩⟩ rfl rfl hl.1 rfl (lv_room (Nat.le_of_ble_eq_true rfl)) dX0_set_10 ⟨Nat.le_of_ble_eq_true rfl, Nat.le_of_ble_eq_true rfl⟩).run) (fun r10 w10 => ?_)
    try dsimp only at w10
    refine lv_if_ne (tgt := 18) hx hb dX0_set_13 rfl (fun h13 => ?_) (fun h13 => ?_)
    · skip
      have h13 := (tl_b1 w10).mp h13
      obtain ⟨a, lta, rfl⟩ := tl_of (x := x) (by omega)
      have ea : (nI a).toInt = ((a : Nat) : Int) := nI_toInt lta
      refine lv_aload_n hx hb dX0_set_18 rfl (lv_at hl 0 rfl) ?_
      refine va_get (D := (dC, dI)) (ci := 0) (v := .ref q0) (C := RX0) (T := TX0) (N := 4) hx hb hts hinX0 hown hK hP 0 rfl rfl 0 (by decide) (hts _ (List.mem_cons_of_mem _ k37)) (fun _ h9 => h9) rfl dX0_set_19 ?_
      refine lv_iload_n hx hb dX0_set_22 rfl (lv_at hl 1 rfl) ?_
      refine tl_iald (v := T0 a) hx hb hK hP 1 0 rfl rfl (by omega) (by decide) (hT _ (by omega)) dX0_set_23 ?_
      refine lv_istore_n (lv' := [(3, .int (T0 a)), (0, .ref h0), (1, .int (nI a)), (2, .int y)]) hx hb dX0_set_24 rfl hl (by decide) rfl (fun ls hl => ?_)
      refine lv_aload_n hx hb dX0_set_25 rfl (lv_at hl 1 rfl) ?_
      refine va_get (D := (dC, dI)) (ci := 0) (v := .ref q0) (C := RX0) (T := TX0) (N := 4) hx hb hts hinX0 hown hK hP 0 rfl rfl 0 (by decide) (hts _ (List.mem_cons_of_mem _ k37)) (fun _ h9 => h9) rfl dX0_set_26 ?_
      refine lv_iload_n hx hb dX0_set_29 rfl (lv_at hl 2 rfl) ?_
      refine lv_iload_n hx hb dX0_set_30 rfl (lv_at hl 3 rfl) ?_
      refine tl_iast hx hb hK hP hD hS 1 0 rfl rfl (by omega) (by decide) dX0_set_31 (fun H locs hP hD hS => ?_)
      have hP : va_P (dC, dI) vwCl [(h0, .inr (0, [.ref q0, .ref q1, .int (nI n), .int (nI k)])), (q0, .inl (cA, 3000, .inl (upd T a y))), (q1, .inl (cB, 40, .inl G))] H := hP
      have hD : va_D A [(h0, .inr (0, [.ref q0, .ref q1, .int (nI n), .int (nI k)])), (q0, .inl (cA, 3000, .inl (upd T a y))), (q1, .inl (cB, 40, .inl G))] := hD
      refine lv_iload_n hx hb dX0_set_32 rfl (lv_at hl 0 rfl) ?_
      subst hQ
      exact W.iret (v := T0 a) hx hb hr (fun t ht hW => ⟨⟨T0 a, (n, upd T a y, k, G), rfl, (by rw [(show sp_set (nI a) y n T0 k G0 = (T0 a, (n, upd T0 a y, k, G0)) from (by unfold sp_set; (try simp only [nI_clamp lta]); (repeat' split) <;> first | rfl | (exfalso; omega)))]; exact ⟨rfl, tE_mk (pu_ups hT) hG hn hk⟩), by rw [ht]; exact hP, va_K.moved hW.alike hK, hD⟩, hS.F ht⟩) hS.2.2 dX0_set_33
    · skip
      have h13 := (tl_b0 w10).mp h13
      refine lv_iconst (v := (-1 : Int32)) hx hb dX0_set_16 (by decide) ?_
      subst hQ
      exact W.iret (v := (-1 : Int32)) hx hb hr (fun t ht hW => ⟨⟨(-1 : Int32), (n, T, k, G), rfl, (by rw [(show sp_set x y n T0 k G0 = ((-1 : Int32), (n, T0, k, G0)) from (by unfold sp_set; (repeat' split) <;> first | rfl | (exfalso; omega)))]; exact ⟨rfl, tE_mk hT hG hn hk⟩), by rw [ht]; exact hP, va_K.moved hW.alike hK, hD⟩, hS.F ht⟩) hS.2.2 dX0_set_17
set_option maxHeartbeats 4000000 in
set_option maxRecDepth 100000 in
theorem c_X_turn (l : Launch) (dC : Nat → ClassId) (dI : Nat → Nat → Nat) (h0 q0 q1 sz n k : Nat) (cA cB : ClassId) (T G T0 G0 : Nat → Int32) (hT : ∀ j, j < n → T j = T0 j) (hG : ∀ j, j < k → G j = G0 j) (hn : n ≤ 3000) (hk : k ≤ 40)  : Met l yX0_turn wsX0_turn ({ frames := 0, cells := 0, slots := 0, locals := 0 } : Room) (va_Pc [.ref h0] (fun U => U.heap.size = sz ∧ va_P (dC, dI) vwCl [(h0, .inr (0, [.ref q0, .ref q1, .int (nI n), .int (nI k)])), (q0, .inl (cA, 3000, .inl T)), (q1, .inl (cB, 40, .inl G))] U.heap ∧ va_K (dC, dI) vwCl [(cA, .int), (cB, .int)] U ∧ va_D (fun _ => True) [(h0, .inr (0, [.ref q0, .ref q1, .int (nI n), .int (nI k)])), (q0, .inl (cA, 3000, .inl T)), (q1, .inl (cB, 40, .inl G))])) (va_Qi (fun (r : Int32) (u : tS) => r = (sp_turn n T0 k G0).1 ∧ tE u (sp_turn n T0 k G0).2) (at_X dC dI (va_A [(h0, .inr (0, [.ref q0, .ref q1, .int (nI n), .int (nI k)])), (q0, .inl (cA, 3000, .inl T)), (q1, .inl (cB, 40, .inl G))] sz) h0 q0 q1 cA cB) (va_A [(h0, .inr (0, [.ref q0, .ref q1, .int (nI n), .int (nI k)])), (q0, .inl (cA, 3000, .inl T)), (q1, .inl (cB, 40, .inl G))] sz)) 0 0 (va_A [(h0, .inr (0, [.ref q0, .ref q1, .int (nI n), .int (nI k)])), (q0, .inl (cA, 3000, .inl T)), (q1, .inl (cB, 40, .inl G))] sz) := by
  refine Met.ofW (cc := cX0_turn) (maxL := 4) (ret := (some .int)) (by decide) rfl ?_
  intro p e s m args below meth c s₁ B hml hv
  obtain ⟨rfl, hsz, hP, hK, hD0⟩ := hv
  have hx := B.exec
  have hb := B.bytes
  have hr := B.returns
  have hts := atoms_spec (ws := wsX0_turn) B.pre
  have hown : s.vm.findClass RX0 = some m.cls := findClass_of_methodNamed B.named
  have hlocks := B.notSynchronized
  subst hsz
  have hD := hD0.self (sz := s.heap.size)
  generalize hAe : va_A [(h0, .inr (0, [.ref q0, .ref q1, .int (nI n), .int (nI k)])), (q0, .inl (cA, 3000, .inl T)), (q1, .inl (cB, 40, .inl G))] s.heap.size = A at hD ⊢
  have hA : ∀ q : Nat, s.heap.size ≤ q → A q := fun q h => by rw [← hAe]; exact Or.inr h
  have hS : va_S A s.heap s.heap [] := va_S.rf
  have hP : va_P (dC, dI) vwCl [(h0, .inr (0, [.ref q0, .ref q1, .int (nI n), .int (nI k)])), (q0, .inl (cA, 3000, .inl T)), (q1, .inl (cB, 40, .inl G))] s.heap := hP
  have hinX0 : ∀ w ∈ u_ws RX0 TX0 4, w ∈ wsX0_turn := fun w h => List.mem_cons_of_mem _ (inX0 w h)
  have hl := lv_entry ([.ref h0]) (n := 4) (Nat.le_of_ble_eq_true rfl)
  rw [lg_entry_eq]
  generalize (lg_sl ([.ref h0]) ++ List.replicate (4 - (lg_sl ([.ref h0])).length) Slot.unset).toArray = ls at hl ⊢
  have hl : lv_has ls 4 [(0, .ref h0)] := hl
  refine tl_q (fun Q hQ => ?_)
  refine lv_iconst (v := nI 0) hx hb dX0_turn_0 (by decide) ?_
  refine lv_istore_n (lv' := [(1, .int (nI 0)), (0, .ref h0)]) hx hb dX0_turn_1 rfl hl (by decide) rfl (fun ls hl => ?_)
  have LP2 : ∀ (fu : Nat) (j : Nat) (F : Nat → Int32) (H : Heap) (locs : List Loc) (ls : Array Slot), n / 2 - j < fu → j ≤ n / 2 → (∀ i, i < n → F i = if i < j ∨ n - 1 - j < i then T0 (n - 1 - i) else T0 i) → lv_has ls 4 [(0, .ref h0), (1, .int (nI j))] → va_P (dC, dI) vwCl [(h0, .inr (0, [.ref q0, .ref q1, .int (nI n), .int (nI k)])), (q0, .inl (cA, 3000, .inl F)), (q1, .inl (cB, 40, .inl G))] H → va_D A [(h0, .inr (0, [.ref q0, .ref q1, .int (nI n), .int (nI k)])), (q0, .inl (cA, 3000, .inl F)), (q1, .inl (cB, 40, .inl G))] → va_S A s.heap H locs → W p l e (headSpec wsX0_turn ({ frames := 0, cells := 0, slots := 0, locals := 0 } : Room)).room s m ([.ref h0] : List Value).toArray below meth c H locs 0 0 Q (F0 m 2 ls []) := by
    intro fu
    induction fu with
    | zero => intro j F H locs ls hfu; exact absurd hfu (Nat.not_lt_zero _)
    | succ fu ih =>
      intro j F H locs ls hfu hj hF hl hP hD hS
      refine lv_iload_n hx hb dX0_turn_2 rfl (lv_at hl 1 rfl) ?_
      refine lv_aload_n hx hb dX0_turn_3 rfl (lv_at hl 0 rfl) ?_
      refine va_get (D := (dC, dI)) (ci := 0) (v := .int (nI n)) (C := RX0) (T := TX0) (N := 4) hx hb hts hinX0 hown hK hP 0 rfl rfl 2 (by decide) (hts _ (List.mem_cons_of_mem _ k39)) (fun _ h9 => h9) rfl dX0_turn_4 ?_
      refine lv_iconst (v := nI 2) hx hb dX0_turn_7 (by decide) ?_
      refine lv_idiv hx hb dX0_turn_8 (by decide) ?_
      refine tl_top (pk_div (by omega) (by omega) (by omega)) ?_
      refine lv_icmp_ge (tgt := 53) hx hb dX0_turn_9 rfl (fun h9 => ?_) (fun h9 => ?_)
      · skip
        have h9 := (tl_le (show (nI (n / 2)).toInt = ((n / 2 : Nat) : Int) from (nI_toInt (by omega))) (show (nI j).toInt = ((j : Nat) : Int) from (nI_toInt (by omega)))).mp h9
        refine lv_aload_n hx hb dX0_turn_53 rfl (lv_at hl 0 rfl) ?_
        refine va_get (D := (dC, dI)) (ci := 0) (v := .int (nI n)) (C := RX0) (T := TX0) (N := 4) hx hb hts hinX0 hown hK hP 0 rfl rfl 2 (by decide) (hts _ (List.mem_cons_of_mem _ k39)) (fun _ h9 => h9) rfl dX0_turn_54 ?_
        subst hQ
        exact W.iret (v := nI n) hx hb hr (fun t ht hW => ⟨⟨nI n, (n, F, k, G), rfl, ⟨rfl, tE_mk (pu_turn_end hj (by omega) hF) hG hn hk⟩, by rw [ht]; exact hP, va_K.moved hW.alike hK, hD⟩, hS.F ht⟩) hS.2.2 dX0_turn_57
      · skip
        have h9 := (not_congr (tl_le (show (nI (n / 2)).toInt = ((n / 2 : Nat) : Int) from (nI_toInt (by omega))) (show (nI j).toInt = ((j : Nat) : Int) from (nI_toInt (by omega))))).mp h9
        refine lv_aload_n hx hb dX0_turn_12 rfl (lv_at hl 0 rfl) ?_
        refine va_get (D := (dC, dI)) (ci := 0) (v := .int (nI n)) (C := RX0) (T := TX0) (N := 4) hx hb hts hinX0 hown hK hP 0 rfl rfl 2 (by decide) (hts _ (List.mem_cons_of_mem _ k39)) (fun _ h9 => h9) rfl dX0_turn_13 ?_
        refine lv_iconst (v := nI 1) hx hb dX0_turn_16 (by decide) ?_
        refine lv_isub hx hb dX0_turn_17 ?_
        refine tl_top (pk_sub (by omega)) ?_
        refine lv_iload_n hx hb dX0_turn_18 rfl (lv_at hl 1 rfl) ?_
        refine lv_isub hx hb dX0_turn_19 ?_
        refine tl_top (pk_sub (by omega)) ?_
        refine lv_istore_n (lv' := [(2, .int (nI (n - 1 - j))), (0, .ref h0), (1, .int (nI j))]) hx hb dX0_turn_20 rfl hl (by decide) rfl (fun ls hl => ?_)
        refine lv_aload_n hx hb dX0_turn_21 rfl (lv_at hl 1 rfl) ?_
        refine va_get (D := (dC, dI)) (ci := 0) (v := .ref q0) (C := RX0) (T := TX0) (N := 4) hx hb hts hinX0 hown hK hP 0 rfl rfl 0 (by decide) (hts _ (List.mem_cons_of_mem _ k37)) (fun _ h9 => h9) rfl dX0_turn_22 ?_
        refine lv_iload_n hx hb dX0_turn_25 rfl (lv_at hl 2 rfl) ?_
        refine tl_iald (v := T0 j) hx hb hK hP 1 0 rfl rfl (by omega) (by decide) (by rw [hF j (by omega), if_neg (by omega)]) dX0_turn_26 ?_
        refine lv_istore_n (lv' := [(3, .int (T0 j)), (2, .int (nI (n - 1 - j))), (0, .ref h0), (1, .int (nI j))]) hx hb dX0_turn_27 rfl hl (by decide) rfl (fun ls hl => ?_)
        refine lv_aload_n hx hb dX0_turn_28 rfl (lv_at hl 2 rfl) ?_
        refine va_get (D := (dC, dI)) (ci := 0) (v := .ref q0) (C := RX0) (T := TX0) (N := 4) hx hb hts hinX0 hown hK hP 0 rfl rfl 0 (by decide) (hts _ (List.mem_cons_of_mem _ k37)) (fun _ h9 => h9) rfl dX0_turn_29 ?_
        refine lv_iload_n hx hb dX0_turn_32 rfl (lv_at hl 3 rfl) ?_
        refine lv_aload_n hx hb dX0_turn_33 rfl (lv_at hl 2 rfl) ?_
        refine va_get (D := (dC, dI)) (ci := 0) (v := .ref q0) (C := RX0) (T := TX0) (N := 4) hx hb hts hinX0 hown hK hP 0 rfl rfl 0 (by decide) (hts _ (List.mem_cons_of_mem _ k37)) (fun _ h9 => h9) rfl dX0_turn_34 ?_
        refine lv_iload_n hx hb dX0_turn_37 rfl (lv_at hl 1 rfl) ?_
        refine tl_iald (v := T0 (n - 1 - j)) hx hb hK hP 1 0 rfl rfl (by omega) (by decide) (by rw [hF _ (by omega), if_neg (by omega)]) dX0_turn_38 ?_
        refine tl_iast hx hb hK hP hD hS 1 0 rfl rfl (by omega) (by decide) dX0_turn_39 (fun H locs hP hD hS => ?_)
        have hP : va_P (dC, dI) vwCl [(h0, .inr (0, [.ref q0, .ref q1, .int (nI n), .int (nI k)])), (q0, .inl (cA, 3000, .inl (upd F j (T0 (n - 1 - j))))), (q1, .inl (cB, 40, .inl G))] H := hP
        have hD : va_D A [(h0, .inr (0, [.ref q0, .ref q1, .int (nI n), .int (nI k)])), (q0, .inl (cA, 3000, .inl (upd F j (T0 (n - 1 - j))))), (q1, .inl (cB, 40, .inl G))] := hD
        refine lv_aload_n hx hb dX0_turn_40 rfl (lv_at hl 2 rfl) ?_
        refine va_get (D := (dC, dI)) (ci := 0) (v := .ref q0) (C := RX0) (T := TX0) (N := 4) hx hb hts hinX0 hown hK hP 0 rfl rfl 0 (by decide) (hts _ (List.mem_cons_of_mem _ k37)) (fun _ h9 => h9) rfl dX0_turn_41 ?_
        refine lv_iload_n hx hb dX0_turn_44 rfl (lv_at hl 1 rfl) ?_
        refine lv_iload_n hx hb dX0_turn_45 rfl (lv_at hl 0 rfl) ?_
        refine tl_iast hx hb hK hP hD hS 1 0 rfl rfl (by omega) (by decide) dX0_turn_46 (fun H locs hP hD hS => ?_)
        have hP : va_P (dC, dI) vwCl [(h0, .inr (0, [.ref q0, .ref q1, .int (nI n), .int (nI k)])), (q0, .inl (cA, 3000, .inl (upd (upd F j (T0 (n - 1 - j))) (n - 1 - j) (T0 j)))), (q1, .inl (cB, 40, .inl G))] H := hP
        have hD : va_D A [(h0, .inr (0, [.ref q0, .ref q1, .int (nI n), .int (nI k)])), (q0, .inl (cA, 3000, .inl (upd (upd F j (T0 (n - 1 - j))) (n - 1 - j) (T0 j)))), (q1, .inl (cB, 40, .inl G))] := hD
        refine lv_iinc (lv' := [(1, .int (nI (j + 1))), (3, .int (T0 j)), (2, .int (nI (n - 1 - j))), (0, .ref h0)]) (k := 3) (v := nI (j + 1)) hx hb dX0_turn_47 hl rfl (tl_inc1 _) (by decide) rfl (fun ls hl => ?_)
        refine lv_goto (tgt := 2) hx hb dX0_turn_50 rfl ?_
        exact ih (j + 1) (upd (upd F j (T0 (n - 1 - j))) (n - 1 - j) (T0 j)) _ _ ls (by omega) (by omega) (pu_turn (by omega) hF) (lv_sub hl [3, 0] rfl) hP hD hS
  exact LP2 _ 0 T _ _ ls (Nat.lt_succ_self _) (by omega) (pu_turn0 hT) (lv_sub hl [1, 0] rfl) hP hD hS
set_option maxHeartbeats 4000000 in
set_option maxRecDepth 100000 in
theorem c_X_length (l : Launch) (dC : Nat → ClassId) (dI : Nat → Nat → Nat) (h0 q0 q1 sz n k : Nat) (cA cB : ClassId) (T G T0 G0 : Nat → Int32) (hT : ∀ j, j < n → T j = T0 j) (hG : ∀ j, j < k → G j = G0 j) (hn : n ≤ 3000) (hk : k ≤ 40) (x : Int32) : Met l yX0_length wsX0_length ({ frames := 0, cells := 0, slots := 0, locals := 0 } : Room) (va_Pc [.ref h0, .int x] (fun U => U.heap.size = sz ∧ va_P (dC, dI) vwCl [(h0, .inr (0, [.ref q0, .ref q1, .int (nI n), .int (nI k)])), (q0, .inl (cA, 3000, .inl T)), (q1, .inl (cB, 40, .inl G))] U.heap ∧ va_K (dC, dI) vwCl [(cA, .int), (cB, .int)] U ∧ va_D (fun _ => True) [(h0, .inr (0, [.ref q0, .ref q1, .int (nI n), .int (nI k)])), (q0, .inl (cA, 3000, .inl T)), (q1, .inl (cB, 40, .inl G))])) (va_Qi (fun (r : Int32) (u : tS) => r = (sp_length x n T0 k G0).1 ∧ tE u (sp_length x n T0 k G0).2) (at_X dC dI (va_A [(h0, .inr (0, [.ref q0, .ref q1, .int (nI n), .int (nI k)])), (q0, .inl (cA, 3000, .inl T)), (q1, .inl (cB, 40, .inl G))] sz) h0 q0 q1 cA cB) (va_A [(h0, .inr (0, [.ref q0, .ref q1, .int (nI n), .int (nI k)])), (q0, .inl (cA, 3000, .inl T)), (q1, .inl (cB, 40, .inl G))] sz)) 0 0 (va_A [(h0, .inr (0, [.ref q0, .ref q1, .int (nI n), .int (nI k)])), (q0, .inl (cA, 3000, .inl T)), (q1, .inl (cB, 40, .inl G))] sz) := by
  refine Met.ofW (cc := cX0_length) (maxL := 3) (ret := (some .int)) (by decide) rfl ?_
  intro p e s m args below meth c s₁ B hml hv
  obtain ⟨rfl, hsz, hP, hK, hD0⟩ := hv
  have hx := B.exec
  have hb := B.bytes
  have hr := B.returns
  have hts := atoms_spec (ws := wsX0_length) B.pre
  have hown : s.vm.findClass RX0 = some m.cls := findClass_of_methodNamed B.named
  have hlocks := B.notSynchronized
  subst hsz
  have hD := hD0.self (sz := s.heap.size)
  generalize hAe : va_A [(h0, .inr (0, [.ref q0, .ref q1, .int (nI n), .int (nI k)])), (q0, .inl (cA, 3000, .inl T)), (q1, .inl (cB, 40, .inl G))] s.heap.size = A at hD ⊢
  have hA : ∀ q : Nat, s.heap.size ≤ q → A q := fun q h => by rw [← hAe]; exact Or.inr h
  have hS : va_S A s.heap s.heap [] := va_S.rf
  have hP : va_P (dC, dI) vwCl [(h0, .inr (0, [.ref q0, .ref q1, .int (nI n), .int (nI k)])), (q0, .inl (cA, 3000, .inl T)), (q1, .inl (cB, 40, .inl G))] s.heap := hP
  have hinX0 : ∀ w ∈ u_ws RX0 TX0 4, w ∈ wsX0_length := fun w h => List.mem_cons_of_mem _ (inX0 w h)
  have hl := lv_entry ([.ref h0, .int x]) (n := 3) (Nat.le_of_ble_eq_true rfl)
  rw [lg_entry_eq]
  generalize (lg_sl ([.ref h0, .int x]) ++ List.replicate (3 - (lg_sl ([.ref h0, .int x])).length) Slot.unset).toArray = ls at hl ⊢
  have hl : lv_has ls 3 [(0, .ref h0), (1, .int x)] := hl
  refine tl_q (fun Q hQ => ?_)
  refine lv_iload_n hx hb dX0_length_0 rfl (lv_at hl 1 rfl) ?_
  refine lv_if_ge (tgt := 6) hx hb dX0_length_1 rfl (fun h1 => ?_) (fun h1 => ?_)
  · skip
    have h1 := (tl_le (show (0 : Int32).toInt = (0 : Int) from Int32.toInt_zero) (show x.toInt = x.toInt from rfl)).mp h1
    refine lv_iload_n hx hb dX0_length_6 rfl (lv_at hl 1 rfl) ?_
    refine lv_sipush (v := nI 3000) hx hb dX0_length_7 (by decide) ?_
    refine lv_icmp_le (tgt := 16) hx hb dX0_length_10 rfl (fun h10 => ?_) (fun h10 => ?_)
    · skip
      have h10 := (tl_le (show x.toInt = x.toInt from rfl) (show (nI 3000).toInt = (3000 : Int) from (by decide))).mp h10
      obtain ⟨a, lta, rfl⟩ := tl_of (x := x) (by omega)
      have ea : (nI a).toInt = ((a : Nat) : Int) := nI_toInt lta
      refine lv_aload_n hx hb dX0_length_16 rfl (lv_at hl 0 rfl) ?_
      refine va_get (D := (dC, dI)) (ci := 0) (v := .int (nI n)) (C := RX0) (T := TX0) (N := 4) hx hb hts hinX0 hown hK hP 0 rfl rfl 2 (by decide) (hts _ (List.mem_cons_of_mem _ k39)) (fun _ h9 => h9) rfl dX0_length_17 ?_
      refine lv_istore_n (lv' := [(2, .int (nI n)), (0, .ref h0), (1, .int (nI a))]) hx hb dX0_length_20 rfl hl (by decide) rfl (fun ls hl => ?_)
      have LP21 : ∀ (fu : Nat) (j : Nat) (F : Nat → Int32) (H : Heap) (locs : List Loc) (ls : Array Slot), a - j < fu → n ≤ j → j ≤ a ∨ j = n → (∀ i, i < j → F i = if i < n then T0 i else 0) → lv_has ls 3 [(0, .ref h0), (1, .int (nI a)), (2, .int (nI j))] → va_P (dC, dI) vwCl [(h0, .inr (0, [.ref q0, .ref q1, .int (nI n), .int (nI k)])), (q0, .inl (cA, 3000, .inl F)), (q1, .inl (cB, 40, .inl G))] H → va_D A [(h0, .inr (0, [.ref q0, .ref q1, .int (nI n), .int (nI k)])), (q0, .inl (cA, 3000, .inl F)), (q1, .inl (cB, 40, .inl G))] → va_S A s.heap H locs → W p l e (headSpec wsX0_length ({ frames := 0, cells := 0, slots := 0, locals := 0 } : Room)).room s m ([.ref h0, .int (nI a)] : List Value).toArray below meth c H locs 0 0 Q (F0 m 21 ls []) := by
        intro fu
        induction fu with
        | zero => intro j F H locs ls hfu; exact absurd hfu (Nat.not_lt_zero _)
        | succ fu ih =>
          intro j F H locs ls hfu hj hj2 hF hl hP hD hS
          refine lv_iload_n hx hb dX0_length_21 rfl (lv_at hl 2 rfl) ?_
          refine lv_iload_n hx hb dX0_length_22 rfl (lv_at hl 1 rfl) ?_
          refine lv_icmp_ge (tgt := 39) hx hb dX0_length_23 rfl (fun h23 => ?_) (fun h23 => ?_)
          · skip
            have h23 := (tl_le (show (nI a).toInt = ((a : Nat) : Int) from (nI_toInt (by omega))) (show (nI j).toInt = ((j : Nat) : Int) from (nI_toInt (by omega)))).mp h23
            refine lv_aload_n hx hb dX0_length_39 rfl (lv_at hl 0 rfl) ?_
            refine lv_iload_n hx hb dX0_length_40 rfl (lv_at hl 1 rfl) ?_
            refine va_put (D := (dC, dI)) (ci := 0) (v := .int (nI a)) (ty := .int) (C := RX0) (T := TX0) (N := 4) hx hb hts hinX0 tyX0 tyX0_ok nmX0 hown hK hP hD hS 0 rfl rfl 2 (by decide) (hts _ (List.mem_cons_of_mem _ k39)) (fun _ h9 => h9) rfl (by decide +kernel) rfl rfl (Nat.le_of_ble_eq_true rfl) dX0_length_41 (fun H locs hP hD hS => ?_)
            have hP : va_P (dC, dI) vwCl [(h0, .inr (0, [.ref q0, .ref q1, .int (nI a), .int (nI k)])), (q0, .inl (cA, 3000, .inl F)), (q1, .inl (cB, 40, .inl G))] H := hP
            have hD : va_D A [(h0, .inr (0, [.ref q0, .ref q1, .int (nI a), .int (nI k)])), (q0, .inl (cA, 3000, .inl F)), (q1, .inl (cB, 40, .inl G))] := hD
            refine lv_aload_n hx hb dX0_length_44 rfl (lv_at hl 0 rfl) ?_
            refine va_get (D := (dC, dI)) (ci := 0) (v := .int (nI a)) (C := RX0) (T := TX0) (N := 4) hx hb hts hinX0 hown hK hP 0 rfl rfl 2 (by decide) (hts _ (List.mem_cons_of_mem _ k39)) (fun _ h9 => h9) rfl dX0_length_45 ?_
            subst hQ
            exact W.iret (v := nI a) hx hb hr (fun t ht hW => ⟨⟨nI a, (a, F, k, G), rfl, (by rw [(show sp_length (nI a) n T0 k G0 = (nI a, (a, fun j => if j < n then T0 j else 0, k, G0)) from (by unfold sp_length; (try simp only [nI_clamp lta]); (repeat' split) <;> first | rfl | (exfalso; omega)))]; exact ⟨rfl, tE_mk (fun i hi => hF i (by omega)) hG (by omega) hk⟩), by rw [ht]; exact hP, va_K.moved hW.alike hK, hD⟩, hS.F ht⟩) hS.2.2 dX0_length_48
          · skip
            have h23 := (not_congr (tl_le (show (nI a).toInt = ((a : Nat) : Int) from (nI_toInt (by omega))) (show (nI j).toInt = ((j : Nat) : Int) from (nI_toInt (by omega))))).mp h23
            refine lv_aload_n hx hb dX0_length_26 rfl (lv_at hl 0 rfl) ?_
            refine va_get (D := (dC, dI)) (ci := 0) (v := .ref q0) (C := RX0) (T := TX0) (N := 4) hx hb hts hinX0 hown hK hP 0 rfl rfl 0 (by decide) (hts _ (List.mem_cons_of_mem _ k37)) (fun _ h9 => h9) rfl dX0_length_27 ?_
            refine lv_iload_n hx hb dX0_length_30 rfl (lv_at hl 2 rfl) ?_
            refine lv_iconst (v := nI 0) hx hb dX0_length_31 (by decide) ?_
            refine tl_iast hx hb hK hP hD hS 1 0 rfl rfl (by omega) (by decide) dX0_length_32 (fun H locs hP hD hS => ?_)
            have hP : va_P (dC, dI) vwCl [(h0, .inr (0, [.ref q0, .ref q1, .int (nI n), .int (nI k)])), (q0, .inl (cA, 3000, .inl (upd F j (nI 0)))), (q1, .inl (cB, 40, .inl G))] H := hP
            have hD : va_D A [(h0, .inr (0, [.ref q0, .ref q1, .int (nI n), .int (nI k)])), (q0, .inl (cA, 3000, .inl (upd F j (nI 0)))), (q1, .inl (cB, 40, .inl G))] := hD
            refine lv_iinc (lv' := [(2, .int (nI (j + 1))), (0, .ref h0), (1, .int (nI a))]) (k := 2) (v := nI (j + 1)) hx hb dX0_length_33 hl rfl (tl_inc1 _) (by decide) rfl (fun ls hl => ?_)
            refine lv_goto (tgt := 21) hx hb dX0_length_36 rfl ?_
            exact ih (j + 1) (upd F j (nI 0)) _ _ ls (by omega) (by omega) (by omega) (pu_len hj hF) (lv_sub hl [1, 2, 0] rfl) hP hD hS
      exact LP21 _ n T _ _ ls (Nat.lt_succ_self _) (by omega) (by omega) (fun i hi => by rw [if_pos hi]; exact hT i hi) (lv_sub hl [1, 2, 0] rfl) hP hD hS
    · skip
      have h10 := (not_congr (tl_le (show x.toInt = x.toInt from rfl) (show (nI 3000).toInt = (3000 : Int) from (by decide)))).mp h10
      refine lv_bipush (v := (-3 : Int32)) hx hb dX0_length_13 (by decide) ?_
      subst hQ
      exact W.iret (v := (-3 : Int32)) hx hb hr (fun t ht hW => ⟨⟨(-3 : Int32), (n, T, k, G), rfl, (by rw [(show sp_length x n T0 k G0 = ((-3 : Int32), (n, T0, k, G0)) from (by unfold sp_length; (repeat' split) <;> first | rfl | (exfalso; omega)))]; exact ⟨rfl, tE_mk hT hG hn hk⟩), by rw [ht]; exact hP, va_K.moved hW.alike hK, hD⟩, hS.F ht⟩) hS.2.2 dX0_length_15
  · skip
    have h1 := (not_congr (tl_le (show (0 : Int32).toInt = (0 : Int) from Int32.toInt_zero) (show x.toInt = x.toInt from rfl))).mp h1
    refine lv_iconst (v := (-1 : Int32)) hx hb dX0_length_4 (by decide) ?_
    subst hQ
    exact W.iret (v := (-1 : Int32)) hx hb hr (fun t ht hW => ⟨⟨(-1 : Int32), (n, T, k, G), rfl, (by rw [(show sp_length x n T0 k G0 = ((-1 : Int32), (n, T0, k, G0)) from (by unfold sp_length; (repeat' split) <;> first | rfl | (exfalso; omega)))]; exact ⟨rfl, tE_mk hT hG hn hk⟩), by rw [ht]; exact hP, va_K.moved hW.alike hK, hD⟩, hS.F ht⟩) hS.2.2 dX0_length_5
set_option maxHeartbeats 4000000 in
set_option maxRecDepth 100000 in
theorem c_X_lift (l : Launch) (dC : Nat → ClassId) (dI : Nat → Nat → Nat) (h0 q0 q1 sz n k : Nat) (cA cB : ClassId) (T G T0 G0 : Nat → Int32) (hT : ∀ j, j < n → T j = T0 j) (hG : ∀ j, j < k → G j = G0 j) (hn : n ≤ 3000) (hk : k ≤ 40) (x y : Int32) : Met l yX0_lift wsX0_lift ({ frames := 1, cells := 0, slots := 0, locals := 21 } : Room) (va_Pc [.ref h0, .int x, .int y] (fun U => U.heap.size = sz ∧ va_P (dC, dI) vwCl [(h0, .inr (0, [.ref q0, .ref q1, .int (nI n), .int (nI k)])), (q0, .inl (cA, 3000, .inl T)), (q1, .inl (cB, 40, .inl G))] U.heap ∧ va_K (dC, dI) vwCl [(cA, .int), (cB, .int)] U ∧ va_D (fun _ => True) [(h0, .inr (0, [.ref q0, .ref q1, .int (nI n), .int (nI k)])), (q0, .inl (cA, 3000, .inl T)), (q1, .inl (cB, 40, .inl G))])) (va_Qi (fun (r : Int32) (u : tS) => r = (sp_lift x y n T0 k G0).1 ∧ tE u (sp_lift x y n T0 k G0).2) (at_X dC dI (va_A [(h0, .inr (0, [.ref q0, .ref q1, .int (nI n), .int (nI k)])), (q0, .inl (cA, 3000, .inl T)), (q1, .inl (cB, 40, .inl G))] sz) h0 q0 q1 cA cB) (va_A [(h0, .inr (0, [.ref q0, .ref q1, .int (nI n), .int (nI k)])), (q0, .inl (cA, 3000, .inl T)), (q1, .inl (cB, 40, .inl G))] sz)) 0 0 (va_A [(h0, .inr (0, [.ref q0, .ref q1, .int (nI n), .int (nI k)])), (q0, .inl (cA, 3000, .inl T)), (q1, .inl (cB, 40, .inl G))] sz) := by
  refine Met.ofW (cc := cX0_lift) (maxL := 4) (ret := (some .int)) (by decide) rfl ?_
  intro p e s m args below meth c s₁ B hml hv
  obtain ⟨rfl, hsz, hP, hK, hD0⟩ := hv
  have hx := B.exec
  have hb := B.bytes
  have hr := B.returns
  have hts := atoms_spec (ws := wsX0_lift) B.pre
  have hown : s.vm.findClass RX0 = some m.cls := findClass_of_methodNamed B.named
  have hlocks := B.notSynchronized
  subst hsz
  have hD := hD0.self (sz := s.heap.size)
  generalize hAe : va_A [(h0, .inr (0, [.ref q0, .ref q1, .int (nI n), .int (nI k)])), (q0, .inl (cA, 3000, .inl T)), (q1, .inl (cB, 40, .inl G))] s.heap.size = A at hD ⊢
  have hA : ∀ q : Nat, s.heap.size ≤ q → A q := fun q h => by rw [← hAe]; exact Or.inr h
  have hS : va_S A s.heap s.heap [] := va_S.rf
  have hP : va_P (dC, dI) vwCl [(h0, .inr (0, [.ref q0, .ref q1, .int (nI n), .int (nI k)])), (q0, .inl (cA, 3000, .inl T)), (q1, .inl (cB, 40, .inl G))] s.heap := hP
  have hinX0 : ∀ w ∈ u_ws RX0 TX0 4, w ∈ wsX0_lift := fun w h => List.mem_cons_of_mem _ (inX0 w h)
  have hl := lv_entry ([.ref h0, .int x, .int y]) (n := 4) (Nat.le_of_ble_eq_true rfl)
  rw [lg_entry_eq]
  generalize (lg_sl ([.ref h0, .int x, .int y]) ++ List.replicate (4 - (lg_sl ([.ref h0, .int x, .int y])).length) Slot.unset).toArray = ls at hl ⊢
  have hl : lv_has ls 4 [(0, .ref h0), (1, .int x), (2, .int y)] := hl
  refine tl_q (fun Q hQ => ?_)
  refine lv_iload_n hx hb dX0_lift_0 rfl (lv_at hl 1 rfl) ?_
  refine lv_if_lt (tgt := 17) hx hb dX0_lift_1 rfl (fun h1 => ?_) (fun h1 => ?_)
  · skip
    have h1 := (tl_lt (show x.toInt = x.toInt from rfl) (show (0 : Int32).toInt = (0 : Int) from Int32.toInt_zero)).mp h1
    refine lv_iconst (v := (-1 : Int32)) hx hb dX0_lift_17 (by decide) ?_
    subst hQ
    exact W.iret (v := (-1 : Int32)) hx hb hr (fun t ht hW => ⟨⟨(-1 : Int32), (n, T, k, G), rfl, (by rw [(show sp_lift x y n T0 k G0 = ((-1 : Int32), (n, T0, k, G0)) from (by unfold sp_lift; (repeat' split) <;> first | rfl | (exfalso; omega)))]; exact ⟨rfl, tE_mk hT hG hn hk⟩), by rw [ht]; exact hP, va_K.moved hW.alike hK, hD⟩, hS.F ht⟩) hS.2.2 dX0_lift_18
  · skip
    have h1 := (not_congr (tl_lt (show x.toInt = x.toInt from rfl) (show (0 : Int32).toInt = (0 : Int) from Int32.toInt_zero))).mp h1
    refine lv_iload_n hx hb dX0_lift_4 rfl (lv_at hl 2 rfl) ?_
    refine lv_iload_n hx hb dX0_lift_5 rfl (lv_at hl 1 rfl) ?_
    refine lv_icmp_lt (tgt := 17) hx hb dX0_lift_6 rfl (fun h6 => ?_) (fun h6 => ?_)
    · skip
      have h6 := (tl_lt (show y.toInt = y.toInt from rfl) (show x.toInt = x.toInt from rfl)).mp h6
      refine lv_iconst (v := (-1 : Int32)) hx hb dX0_lift_17 (by decide) ?_
      subst hQ
      exact W.iret (v := (-1 : Int32)) hx hb hr (fun t ht hW => ⟨⟨(-1 : Int32), (n, T, k, G), rfl, (by rw [(show sp_lift x y n T0 k G0 = ((-1 : Int32), (n, T0, k, G0)) from (by unfold sp_lift; (repeat' split) <;> first | rfl | (exfalso; omega)))]; exact ⟨rfl, tE_mk hT hG hn hk⟩), by rw [ht]; exact hP, va_K.moved hW.alike hK, hD⟩, hS.F ht⟩) hS.2.2 dX0_lift_18
    · skip
      have h6 := (not_congr (tl_lt (show y.toInt = y.toInt from rfl) (show x.toInt = x.toInt from rfl))).mp h6
      refine lv_iload_n hx hb dX0_lift_9 rfl (lv_at hl 2 rfl) ?_
      refine lv_aload_n hx hb dX0_lift_10 rfl (lv_at hl 0 rfl) ?_
      refine va_get (D := (dC, dI)) (ci := 0) (v := .int (nI n)) (C := RX0) (T := TX0) (N := 4) hx hb hts hinX0 hown hK hP 0 rfl rfl 2 (by decide) (hts _ (List.mem_cons_of_mem _ k39)) (fun _ h9 => h9) rfl dX0_lift_11 ?_
      refine lv_icmp_le (tgt := 19) hx hb dX0_lift_14 rfl (fun h14 => ?_) (fun h14 => ?_)
      · skip
        have h14 := (tl_le (show y.toInt = y.toInt from rfl) (show (nI n).toInt = ((n : Nat) : Int) from (nI_toInt (by omega)))).mp h14
        obtain ⟨a, lta, rfl⟩ := tl_of (x := x) (by omega)
        have ea : (nI a).toInt = ((a : Nat) : Int) := nI_toInt lta
        obtain ⟨b, ltb, rfl⟩ := tl_of (x := y) (by omega)
        have eb : (nI b).toInt = ((b : Nat) : Int) := nI_toInt ltb
        refine lv_iload_n hx hb dX0_lift_19 rfl (lv_at hl 2 rfl) ?_
        refine lv_iload_n hx hb dX0_lift_20 rfl (lv_at hl 1 rfl) ?_
        refine lv_isub hx hb dX0_lift_21 ?_
        refine tl_top (pk_sub (by omega)) ?_
        refine lv_istore_n (lv' := [(3, .int (nI (b - a))), (0, .ref h0), (1, .int (nI a)), (2, .int (nI b))]) hx hb dX0_lift_22 rfl hl (by decide) rfl (fun ls hl => ?_)
        refine lv_iload_n hx hb dX0_lift_23 rfl (lv_at hl 0 rfl) ?_
        refine lv_bipush (v := nI 40) hx hb dX0_lift_24 (by decide) ?_
        refine lv_icmp_le (tgt := 32) hx hb dX0_lift_26 rfl (fun h26 => ?_) (fun h26 => ?_)
        · skip
          have h26 := (tl_le (show (nI (b - a)).toInt = ((b - a : Nat) : Int) from (nI_toInt (by omega))) (show (nI 40).toInt = (40 : Int) from (by decide))).mp h26
          refine lv_aload_n hx hb dX0_lift_32 rfl (lv_at hl 1 rfl) ?_
          refine va_get (D := (dC, dI)) (ci := 0) (v := .ref q0) (C := RX0) (T := TX0) (N := 4) hx hb hts hinX0 hown hK hP 0 rfl rfl 0 (by decide) (hts _ (List.mem_cons_of_mem _ k37)) (fun _ h9 => h9) rfl dX0_lift_33 ?_
          refine lv_iload_n hx hb dX0_lift_36 rfl (lv_at hl 2 rfl) ?_
          refine lv_aload_n hx hb dX0_lift_37 rfl (lv_at hl 1 rfl) ?_
          refine va_get (D := (dC, dI)) (ci := 0) (v := .ref q1) (C := RX0) (T := TX0) (N := 4) hx hb hts hinX0 hown hK hP 0 rfl rfl 1 (by decide) (hts _ (List.mem_cons_of_mem _ k38)) (fun _ h9 => h9) rfl dX0_lift_38 ?_
          refine lv_iconst (v := nI 0) hx hb dX0_lift_41 (by decide) ?_
          refine lv_iload_n hx hb dX0_lift_42 rfl (lv_at hl 0 rfl) ?_
          refine tl_copy hx hb (hml.trans hl.1.symm) hown (hts _ (List.mem_cons_of_mem _ k85)) (hts _ (List.mem_cons_of_mem _ k87)) (hts _ (List.mem_cons_of_mem _ k86)) (hts _ (List.mem_cons_of_mem _ k23)) hK hP hD hS 1 2 0 1 rfl rfl rfl rfl (by decide) (by decide) (by omega) (by omega) (Nat.le_of_ble_eq_true rfl) (Nat.le_of_ble_eq_true rfl) dX0_lift_43 (fun H locs hP hD hS => ?_)
          have hP : va_P (dC, dI) vwCl [(h0, .inr (0, [.ref q0, .ref q1, .int (nI n), .int (nI k)])), (q0, .inl (cA, 3000, .inl T)), (q1, .inl (cB, 40, .inl (va_cpy T G a 0 (b - a))))] H := hP
          have hD : va_D A [(h0, .inr (0, [.ref q0, .ref q1, .int (nI n), .int (nI k)])), (q0, .inl (cA, 3000, .inl T)), (q1, .inl (cB, 40, .inl (va_cpy T G a 0 (b - a))))] := hD
          refine lv_aload_n hx hb dX0_lift_46 rfl (lv_at hl 1 rfl) ?_
          refine lv_iload_n hx hb dX0_lift_47 rfl (lv_at hl 0 rfl) ?_
          refine va_put (D := (dC, dI)) (ci := 0) (v := .int (nI (b - a))) (ty := .int) (C := RX0) (T := TX0) (N := 4) hx hb hts hinX0 tyX0 tyX0_ok nmX0 hown hK hP hD hS 0 rfl rfl 3 (by decide) (hts _ (List.mem_cons_of_mem _ k40)) (fun _ h9 => h9) rfl (by decide +kernel) rfl rfl (Nat.le_of_ble_eq_true rfl) dX0_lift_48 (fun H locs hP hD hS => ?_)
          have hP : va_P (dC, dI) vwCl [(h0, .inr (0, [.ref q0, .ref q1, .int (nI n), .int (nI (b - a))])), (q0, .inl (cA, 3000, .inl T)), (q1, .inl (cB, 40, .inl (va_cpy T G a 0 (b - a))))] H := hP
          have hD : va_D A [(h0, .inr (0, [.ref q0, .ref q1, .int (nI n), .int (nI (b - a))])), (q0, .inl (cA, 3000, .inl T)), (q1, .inl (cB, 40, .inl (va_cpy T G a 0 (b - a))))] := hD
          refine lv_aload_n hx hb dX0_lift_51 rfl (lv_at hl 1 rfl) ?_
          refine va_get (D := (dC, dI)) (ci := 0) (v := .int (nI (b - a))) (C := RX0) (T := TX0) (N := 4) hx hb hts hinX0 hown hK hP 0 rfl rfl 3 (by decide) (hts _ (List.mem_cons_of_mem _ k40)) (fun _ h9 => h9) rfl dX0_lift_52 ?_
          subst hQ
          exact W.iret (v := nI (b - a)) hx hb hr (fun t ht hW => ⟨⟨nI (b - a), (n, T, b - a, va_cpy T G a 0 (b - a)), rfl, (by rw [(show sp_lift (nI a) (nI b) n T0 k G0 = (nI (b - a), (n, T0, b - a, fun j => T0 (a + j))) from (by unfold sp_lift; (try simp only [nI_clamp lta]); (try simp only [nI_clamp ltb]); (repeat' split) <;> first | rfl | (exfalso; omega)))]; exact ⟨rfl, tE_mk hT (pu_lift hT (by omega) (by omega)) hn (by omega)⟩), by rw [ht]; exact hP, va_K.moved hW.alike hK, hD⟩, hS.F ht⟩) hS.2.2 dX0_lift_55
        · skip
          have h26 := (not_congr (tl_le (show (nI (b - a)).toInt = ((b - a : Nat) : Int) from (nI_toInt (by omega))) (show (nI 40).toInt = (40 : Int) from (by decide)))).mp h26
          refine lv_bipush (v := (-3 : Int32)) hx hb dX0_lift_29 (by decide) ?_
          subst hQ
          exact W.iret (v := (-3 : Int32)) hx hb hr (fun t ht hW => ⟨⟨(-3 : Int32), (n, T, k, G), rfl, (by rw [(show sp_lift (nI a) (nI b) n T0 k G0 = ((-3 : Int32), (n, T0, k, G0)) from (by unfold sp_lift; (try simp only [nI_clamp lta]); (try simp only [nI_clamp ltb]); (repeat' split) <;> first | rfl | (exfalso; omega)))]; exact ⟨rfl, tE_mk hT hG hn hk⟩), by rw [ht]; exact hP, va_K.moved hW.alike hK, hD⟩, hS.F ht⟩) hS.2.2 dX0_lift_31
      · skip
        have h14 := (not_congr (tl_le (show y.toInt = y.toInt from rfl) (show (nI n).toInt = ((n : Nat) : Int) from (nI_toInt (by omega))))).mp h14
        refine lv_iconst (v := (-1 : Int32)) hx hb dX0_lift_17 (by decide) ?_
        subst hQ
        exact W.iret (v := (-1 : Int32)) hx hb hr (fun t ht hW => ⟨⟨(-1 : Int32), (n, T, k, G), rfl, (by rw [(show sp_lift x y n T0 k G0 = ((-1 : Int32), (n, T0, k, G0)) from (by unfold sp_lift; (repeat' split) <;> first | rfl | (exfalso; omega)))]; exact ⟨rfl, tE_mk hT hG hn hk⟩), by rw [ht]; exact hP, va_K.moved hW.alike hK, hD⟩, hS.F ht⟩) hS.2.2 dX0_lift_18
