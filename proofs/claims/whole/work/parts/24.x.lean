set_option maxHeartbeats 4000000 in
set_option maxRecDepth 100000 in
theorem c_X_note (l : Launch) (dC : Nat → ClassId) (dI : Nat → Nat → Nat) (h0 q0 q1 sz n k : Nat) (cA cB : ClassId) (T G T0 G0 : Nat → Int32) (hT : ∀ j, j < n → T j = T0 j) (hG : ∀ j, j < k → G j = G0 j) (hn : n ≤ 3000) (hk : k ≤ 40) (x : Int32) : Met l yX0_note wsX0_note ({ frames := 1, cells := 0, slots := 0, locals := 21 } : Room) (va_Pc [.ref h0, .int x] (fun U => U.heap.size = sz ∧ va_P (dC, dI) vwCl [(h0, .inr (0, [.ref q0, .ref q1, .int (nI n), .int (nI k)])), (q0, .inl (cA, 3000, .inl T)), (q1, .inl (cB, 40, .inl G))] U.heap ∧ va_K (dC, dI) vwCl [(cA, .int), (cB, .int)] U ∧ va_D (fun _ => True) [(h0, .inr (0, [.ref q0, .ref q1, .int (nI n), .int (nI k)])), (q0, .inl (cA, 3000, .inl T)), (q1, .inl (cB, 40, .inl G))])) (va_Qi (fun (r : Int32) (u : tS) => r = (sp_note x n T0 k G0).1 ∧ tE u (sp_note x n T0 k G0).2) (at_X dC dI (va_A [(h0, .inr (0, [.ref q0, .ref q1, .int (nI n), .int (nI k)])), (q0, .inl (cA, 3000, .inl T)), (q1, .inl (cB, 40, .inl G))] sz) h0 q0 q1 cA cB) (va_A [(h0, .inr (0, [.ref q0, .ref q1, .int (nI n), .int (nI k)])), (q0, .inl (cA, 3000, .inl T)), (q1, .inl (cB, 40, .inl G))] sz)) 0 0 (va_A [(h0, .inr (0, [.ref q0, .ref q1, .int (nI n), .int (nI k)])), (q0, .inl (cA, 3000, .inl T)), (q1, .inl (cB, 40, .inl G))] sz) := by
  refine Met.ofW (cc := cX0_note) (maxL := 2) (ret := (some .int)) (by decide) rfl ?_
  intro p e s m args below meth c s₁ B hml hv
  obtain ⟨rfl, hsz, hP, hK, hD0⟩ := hv
  have hx := B.exec
  have hb := B.bytes
  have hr := B.returns
  have hts := atoms_spec (ws := wsX0_note) B.pre
  have hown : s.vm.findClass RX0 = some m.cls := findClass_of_methodNamed B.named
  have hlocks := B.notSynchronized
  subst hsz
  have hD := hD0.self (sz := s.heap.size)
  generalize hAe : va_A [(h0, .inr (0, [.ref q0, .ref q1, .int (nI n), .int (nI k)])), (q0, .inl (cA, 3000, .inl T)), (q1, .inl (cB, 40, .inl G))] s.heap.size = A at hD ⊢
  have hA : ∀ q : Nat, s.heap.size ≤ q → A q := fun q h => by rw [← hAe]; exact Or.inr h
  have hS : va_S A s.heap s.heap [] := va_S.rf
  have hP : va_P (dC, dI) vwCl [(h0, .inr (0, [.ref q0, .ref q1, .int (nI n), .int (nI k)])), (q0, .inl (cA, 3000, .inl T)), (q1, .inl (cB, 40, .inl G))] s.heap := hP
  have hinX0 : ∀ w ∈ u_ws RX0 TX0 4, w ∈ wsX0_note := fun w h => List.mem_cons_of_mem _ (inX0 w h)
  have hl := lv_entry ([.ref h0, .int x]) (n := 2) (Nat.le_of_ble_eq_true rfl)
  rw [lg_entry_eq]
  generalize (lg_sl ([.ref h0, .int x]) ++ List.replicate (2 - (lg_sl ([.ref h0, .int x])).length) Slot.unset).toArray = ls at hl ⊢
  have hl : lv_has ls 2 [(0, .ref h0), (1, .int x)] := hl
  refine tl_q (fun Q hQ => ?_)
  refine lv_iload_n hx hb dX0_note_0 rfl (lv_at hl 1 rfl) ?_
  refine lv_i2l hx hb dX0_note_1 rfl ?_
  have ea2_0 : x.toInt64.toInt = x.toInt := ((Int32.toInt_toInt64 _).trans rfl)
  refine vp_callSi ((va_runS (As := [.long x.toInt64]) (rest := []) ⟨hx, hb, hml, hown, hts⟩ (c_X_isSign l x.toInt64) (va_cwS 1 hts (gS_ (fun w h => List.mem_cons_of_mem _ h) k55 k56 k21 k57) rfl rfl rfl (by decide +kernel) ⟨Nat.le_of_ble_eq_true rfl, Nat.le_of_ble_eq_true rfl⟩) ⟨fun a U g mk q => q, fun U hU hW => ⟨rfl, trivial⟩⟩ rfl rfl hl.1 rfl (lv_room (Nat.le_of_ble_eq_true rfl)) dX0_note_2 ⟨Nat.le_of_ble_eq_true rfl, Nat.le_of_ble_eq_true rfl⟩).run) (fun r2 w2 => ?_)
  try dsimp only at w2
  refine lv_if_ne (tgt := 10) hx hb dX0_note_5 rfl (fun h5 => ?_) (fun h5 => ?_)
  · skip
    have h5 := (tl_b1 w2).mp h5
    refine lv_aload_n hx hb dX0_note_10 rfl (lv_at hl 0 rfl) ?_
    refine va_get (D := (dC, dI)) (ci := 0) (v := .int (nI k)) (C := RX0) (T := TX0) (N := 4) hx hb hts hinX0 hown hK hP 0 rfl rfl 3 (by decide) (hts _ (List.mem_cons_of_mem _ k40)) (fun _ h9 => h9) rfl dX0_note_11 ?_
    refine lv_bipush (v := nI 40) hx hb dX0_note_14 (by decide) ?_
    refine lv_icmp_lt (tgt := 22) hx hb dX0_note_16 rfl (fun h16 => ?_) (fun h16 => ?_)
    · skip
      have h16 := (tl_lt (show (nI k).toInt = ((k : Nat) : Int) from (nI_toInt (by omega))) (show (nI 40).toInt = (40 : Int) from (by decide))).mp h16
      refine lv_aload_n hx hb dX0_note_22 rfl (lv_at hl 0 rfl) ?_
      refine va_get (D := (dC, dI)) (ci := 0) (v := .ref q1) (C := RX0) (T := TX0) (N := 4) hx hb hts hinX0 hown hK hP 0 rfl rfl 1 (by decide) (hts _ (List.mem_cons_of_mem _ k38)) (fun _ h9 => h9) rfl dX0_note_23 ?_
      refine lv_aload_n hx hb dX0_note_26 rfl (lv_at hl 0 rfl) ?_
      refine va_get (D := (dC, dI)) (ci := 0) (v := .int (nI k)) (C := RX0) (T := TX0) (N := 4) hx hb hts hinX0 hown hK hP 0 rfl rfl 3 (by decide) (hts _ (List.mem_cons_of_mem _ k40)) (fun _ h9 => h9) rfl dX0_note_27 ?_
      refine lv_iload_n hx hb dX0_note_30 rfl (lv_at hl 1 rfl) ?_
      refine tl_iast hx hb hK hP hD hS 2 1 rfl rfl (by omega) (by decide) dX0_note_31 (fun H locs hP hD hS => ?_)
      have hP : va_P (dC, dI) vwCl [(h0, .inr (0, [.ref q0, .ref q1, .int (nI n), .int (nI k)])), (q0, .inl (cA, 3000, .inl T)), (q1, .inl (cB, 40, .inl (upd G k x)))] H := hP
      have hD : va_D A [(h0, .inr (0, [.ref q0, .ref q1, .int (nI n), .int (nI k)])), (q0, .inl (cA, 3000, .inl T)), (q1, .inl (cB, 40, .inl (upd G k x)))] := hD
      refine lv_aload_n hx hb dX0_note_32 rfl (lv_at hl 0 rfl) ?_
      refine lv_dup hx hb dX0_note_33 rfl ?_
      refine va_get (D := (dC, dI)) (ci := 0) (v := .int (nI k)) (C := RX0) (T := TX0) (N := 4) hx hb hts hinX0 hown hK hP 0 rfl rfl 3 (by decide) (hts _ (List.mem_cons_of_mem _ k40)) (fun _ h9 => h9) rfl dX0_note_34 ?_
      refine lv_iconst (v := nI 1) hx hb dX0_note_37 (by decide) ?_
      refine lv_iadd hx hb dX0_note_38 ?_
      refine tl_top (nI_add _ _) ?_
      refine va_put (D := (dC, dI)) (ci := 0) (v := .int (nI (k + 1))) (ty := .int) (C := RX0) (T := TX0) (N := 4) hx hb hts hinX0 tyX0 tyX0_ok nmX0 hown hK hP hD hS 0 rfl rfl 3 (by decide) (hts _ (List.mem_cons_of_mem _ k40)) (fun _ h9 => h9) rfl (by decide +kernel) rfl rfl (Nat.le_of_ble_eq_true rfl) dX0_note_39 (fun H locs hP hD hS => ?_)
      have hP : va_P (dC, dI) vwCl [(h0, .inr (0, [.ref q0, .ref q1, .int (nI n), .int (nI (k + 1))])), (q0, .inl (cA, 3000, .inl T)), (q1, .inl (cB, 40, .inl (upd G k x)))] H := hP
      have hD : va_D A [(h0, .inr (0, [.ref q0, .ref q1, .int (nI n), .int (nI (k + 1))])), (q0, .inl (cA, 3000, .inl T)), (q1, .inl (cB, 40, .inl (upd G k x)))] := hD
      refine lv_aload_n hx hb dX0_note_42 rfl (lv_at hl 0 rfl) ?_
      refine va_get (D := (dC, dI)) (ci := 0) (v := .int (nI (k + 1))) (C := RX0) (T := TX0) (N := 4) hx hb hts hinX0 hown hK hP 0 rfl rfl 3 (by decide) (hts _ (List.mem_cons_of_mem _ k40)) (fun _ h9 => h9) rfl dX0_note_43 ?_
      subst hQ
      exact W.iret (v := nI (k + 1)) hx hb hr (fun t ht hW => ⟨⟨nI (k + 1), (n, T, k + 1, upd G k x), rfl, (by rw [(show sp_note x n T0 k G0 = (nI (k + 1), (n, T0, k + 1, upd G0 k x)) from (by unfold sp_note; (repeat' split) <;> first | rfl | (exfalso; omega)))]; exact ⟨rfl, tE_mk hT (pu_up hG) hn (by omega)⟩), by rw [ht]; exact hP, va_K.moved hW.alike hK, hD⟩, hS.F ht⟩) hS.2.2 dX0_note_46
    · skip
      have h16 := (not_congr (tl_lt (show (nI k).toInt = ((k : Nat) : Int) from (nI_toInt (by omega))) (show (nI 40).toInt = (40 : Int) from (by decide)))).mp h16
      refine lv_bipush (v := (-3 : Int32)) hx hb dX0_note_19 (by decide) ?_
      subst hQ
      exact W.iret (v := (-3 : Int32)) hx hb hr (fun t ht hW => ⟨⟨(-3 : Int32), (n, T, k, G), rfl, (by rw [(show sp_note x n T0 k G0 = ((-3 : Int32), (n, T0, k, G0)) from (by unfold sp_note; (repeat' split) <;> first | rfl | (exfalso; omega)))]; exact ⟨rfl, tE_mk hT hG hn hk⟩), by rw [ht]; exact hP, va_K.moved hW.alike hK, hD⟩, hS.F ht⟩) hS.2.2 dX0_note_21
  · skip
    have h5 := (tl_b0 w2).mp h5
    refine lv_iconst (v := (-1 : Int32)) hx hb dX0_note_8 (by decide) ?_
    subst hQ
    exact W.iret (v := (-1 : Int32)) hx hb hr (fun t ht hW => ⟨⟨(-1 : Int32), (n, T, k, G), rfl, (by rw [(show sp_note x n T0 k G0 = ((-1 : Int32), (n, T0, k, G0)) from (by unfold sp_note; (repeat' split) <;> first | rfl | (exfalso; omega)))]; exact ⟨rfl, tE_mk hT hG hn hk⟩), by rw [ht]; exact hP, va_K.moved hW.alike hK, hD⟩, hS.F ht⟩) hS.2.2 dX0_note_9
set_option maxHeartbeats 4000000 in
set_option maxRecDepth 100000 in
theorem c_X_drop (l : Launch) (dC : Nat → ClassId) (dI : Nat → Nat → Nat) (h0 q0 q1 sz n k : Nat) (cA cB : ClassId) (T G T0 G0 : Nat → Int32) (hT : ∀ j, j < n → T j = T0 j) (hG : ∀ j, j < k → G j = G0 j) (hn : n ≤ 3000) (hk : k ≤ 40)  : Met l yX0_drop wsX0_drop ({ frames := 0, cells := 0, slots := 0, locals := 0 } : Room) (va_Pc [.ref h0] (fun U => U.heap.size = sz ∧ va_P (dC, dI) vwCl [(h0, .inr (0, [.ref q0, .ref q1, .int (nI n), .int (nI k)])), (q0, .inl (cA, 3000, .inl T)), (q1, .inl (cB, 40, .inl G))] U.heap ∧ va_K (dC, dI) vwCl [(cA, .int), (cB, .int)] U ∧ va_D (fun _ => True) [(h0, .inr (0, [.ref q0, .ref q1, .int (nI n), .int (nI k)])), (q0, .inl (cA, 3000, .inl T)), (q1, .inl (cB, 40, .inl G))])) (va_Qi (fun (r : Int32) (u : tS) => r = (sp_drop n T0 k G0).1 ∧ tE u (sp_drop n T0 k G0).2) (at_X dC dI (va_A [(h0, .inr (0, [.ref q0, .ref q1, .int (nI n), .int (nI k)])), (q0, .inl (cA, 3000, .inl T)), (q1, .inl (cB, 40, .inl G))] sz) h0 q0 q1 cA cB) (va_A [(h0, .inr (0, [.ref q0, .ref q1, .int (nI n), .int (nI k)])), (q0, .inl (cA, 3000, .inl T)), (q1, .inl (cB, 40, .inl G))] sz)) 0 0 (va_A [(h0, .inr (0, [.ref q0, .ref q1, .int (nI n), .int (nI k)])), (q0, .inl (cA, 3000, .inl T)), (q1, .inl (cB, 40, .inl G))] sz) := by
  refine Met.ofW (cc := cX0_drop) (maxL := 2) (ret := (some .int)) (by decide) rfl ?_
  intro p e s m args below meth c s₁ B hml hv
  obtain ⟨rfl, hsz, hP, hK, hD0⟩ := hv
  have hx := B.exec
  have hb := B.bytes
  have hr := B.returns
  have hts := atoms_spec (ws := wsX0_drop) B.pre
  have hown : s.vm.findClass RX0 = some m.cls := findClass_of_methodNamed B.named
  have hlocks := B.notSynchronized
  subst hsz
  have hD := hD0.self (sz := s.heap.size)
  generalize hAe : va_A [(h0, .inr (0, [.ref q0, .ref q1, .int (nI n), .int (nI k)])), (q0, .inl (cA, 3000, .inl T)), (q1, .inl (cB, 40, .inl G))] s.heap.size = A at hD ⊢
  have hA : ∀ q : Nat, s.heap.size ≤ q → A q := fun q h => by rw [← hAe]; exact Or.inr h
  have hS : va_S A s.heap s.heap [] := va_S.rf
  have hP : va_P (dC, dI) vwCl [(h0, .inr (0, [.ref q0, .ref q1, .int (nI n), .int (nI k)])), (q0, .inl (cA, 3000, .inl T)), (q1, .inl (cB, 40, .inl G))] s.heap := hP
  have hinX0 : ∀ w ∈ u_ws RX0 TX0 4, w ∈ wsX0_drop := fun w h => List.mem_cons_of_mem _ (inX0 w h)
  have hl := lv_entry ([.ref h0]) (n := 2) (Nat.le_of_ble_eq_true rfl)
  rw [lg_entry_eq]
  generalize (lg_sl ([.ref h0]) ++ List.replicate (2 - (lg_sl ([.ref h0])).length) Slot.unset).toArray = ls at hl ⊢
  have hl : lv_has ls 2 [(0, .ref h0)] := hl
  refine tl_q (fun Q hQ => ?_)
  refine lv_aload_n hx hb dX0_drop_0 rfl (lv_at hl 0 rfl) ?_
  refine va_get (D := (dC, dI)) (ci := 0) (v := .int (nI k)) (C := RX0) (T := TX0) (N := 4) hx hb hts hinX0 hown hK hP 0 rfl rfl 3 (by decide) (hts _ (List.mem_cons_of_mem _ k40)) (fun _ h9 => h9) rfl dX0_drop_1 ?_
  refine lv_istore_n (lv' := [(1, .int (nI k)), (0, .ref h0)]) hx hb dX0_drop_4 rfl hl (by decide) rfl (fun ls hl => ?_)
  refine lv_aload_n hx hb dX0_drop_5 rfl (lv_at hl 1 rfl) ?_
  refine lv_iconst (v := nI 0) hx hb dX0_drop_6 (by decide) ?_
  refine va_put (D := (dC, dI)) (ci := 0) (v := .int (nI 0)) (ty := .int) (C := RX0) (T := TX0) (N := 4) hx hb hts hinX0 tyX0 tyX0_ok nmX0 hown hK hP hD hS 0 rfl rfl 3 (by decide) (hts _ (List.mem_cons_of_mem _ k40)) (fun _ h9 => h9) rfl (by decide +kernel) rfl rfl (Nat.le_of_ble_eq_true rfl) dX0_drop_7 (fun H locs hP hD hS => ?_)
  have hP : va_P (dC, dI) vwCl [(h0, .inr (0, [.ref q0, .ref q1, .int (nI n), .int (nI 0)])), (q0, .inl (cA, 3000, .inl T)), (q1, .inl (cB, 40, .inl G))] H := hP
  have hD : va_D A [(h0, .inr (0, [.ref q0, .ref q1, .int (nI n), .int (nI 0)])), (q0, .inl (cA, 3000, .inl T)), (q1, .inl (cB, 40, .inl G))] := hD
  refine lv_iload_n hx hb dX0_drop_10 rfl (lv_at hl 0 rfl) ?_
  subst hQ
  exact W.iret (v := nI k) hx hb hr (fun t ht hW => ⟨⟨nI k, (n, T, 0, G), rfl, ⟨rfl, tE_mk hT (fun j hj => absurd hj (Nat.not_lt_zero j)) hn (by omega)⟩, by rw [ht]; exact hP, va_K.moved hW.alike hK, hD⟩, hS.F ht⟩) hS.2.2 dX0_drop_11
set_option maxHeartbeats 4000000 in
set_option maxRecDepth 100000 in
theorem c_X_insert (l : Launch) (dC : Nat → ClassId) (dI : Nat → Nat → Nat) (h0 q0 q1 sz n k : Nat) (cA cB : ClassId) (T G T0 G0 : Nat → Int32) (hT : ∀ j, j < n → T j = T0 j) (hG : ∀ j, j < k → G j = G0 j) (hn : n ≤ 3000) (hk : k ≤ 40) (x d : Int32) (y : Int64) : Met l yX0_insert wsX0_insert ({ frames := 3, cells := 0, slots := 0, locals := 72 } : Room) (va_Pc [.ref h0, .int x, .int d, .long y] (fun U => U.heap.size = sz ∧ va_P (dC, dI) vwCl [(h0, .inr (0, [.ref q0, .ref q1, .int (nI n), .int (nI k)])), (q0, .inl (cA, 3000, .inl T)), (q1, .inl (cB, 40, .inl G))] U.heap ∧ va_K (dC, dI) vwCl [(cA, .int), (cB, .int)] U ∧ va_D (fun _ => True) [(h0, .inr (0, [.ref q0, .ref q1, .int (nI n), .int (nI k)])), (q0, .inl (cA, 3000, .inl T)), (q1, .inl (cB, 40, .inl G))])) (va_Qi (fun (r : Int32) (u : tS) => r = (sp_insert x d y n T0 k G0).1 ∧ tE u (sp_insert x d y n T0 k G0).2) (at_X dC dI (va_A [(h0, .inr (0, [.ref q0, .ref q1, .int (nI n), .int (nI k)])), (q0, .inl (cA, 3000, .inl T)), (q1, .inl (cB, 40, .inl G))] sz) h0 q0 q1 cA cB) (va_A [(h0, .inr (0, [.ref q0, .ref q1, .int (nI n), .int (nI k)])), (q0, .inl (cA, 3000, .inl T)), (q1, .inl (cB, 40, .inl G))] sz)) 0 0 (va_A [(h0, .inr (0, [.ref q0, .ref q1, .int (nI n), .int (nI k)])), (q0, .inl (cA, 3000, .inl T)), (q1, .inl (cB, 40, .inl G))] sz) := by
  refine Met.ofW (cc := cX0_insert) (maxL := 5) (ret := (some .int)) (by decide) rfl ?_
  intro p e s m args below meth c s₁ B hml hv
  obtain ⟨rfl, hsz, hP, hK, hD0⟩ := hv
  have hx := B.exec
  have hb := B.bytes
  have hr := B.returns
  have hts := atoms_spec (ws := wsX0_insert) B.pre
  have hown : s.vm.findClass RX0 = some m.cls := findClass_of_methodNamed B.named
  have hlocks := B.notSynchronized
  subst hsz
  have hD := hD0.self (sz := s.heap.size)
  generalize hAe : va_A [(h0, .inr (0, [.ref q0, .ref q1, .int (nI n), .int (nI k)])), (q0, .inl (cA, 3000, .inl T)), (q1, .inl (cB, 40, .inl G))] s.heap.size = A at hD ⊢
  have hA : ∀ q : Nat, s.heap.size ≤ q → A q := fun q h => by rw [← hAe]; exact Or.inr h
  have hS : va_S A s.heap s.heap [] := va_S.rf
  have hP : va_P (dC, dI) vwCl [(h0, .inr (0, [.ref q0, .ref q1, .int (nI n), .int (nI k)])), (q0, .inl (cA, 3000, .inl T)), (q1, .inl (cB, 40, .inl G))] s.heap := hP
  have hinX0 : ∀ w ∈ u_ws RX0 TX0 4, w ∈ wsX0_insert := fun w h => List.mem_cons_of_mem _ (inX0 w h)
  have hl := lv_entry ([.ref h0, .int x, .int d, .long y]) (n := 5) (Nat.le_of_ble_eq_true rfl)
  rw [lg_entry_eq]
  generalize (lg_sl ([.ref h0, .int x, .int d, .long y]) ++ List.replicate (5 - (lg_sl ([.ref h0, .int x, .int d, .long y])).length) Slot.unset).toArray = ls at hl ⊢
  have hl : lv_has ls 5 [(0, .ref h0), (1, .int x), (2, .int d), (3, .long y)] := hl
  refine tl_q (fun Q hQ => ?_)
  refine lv_aload_n hx hb dX0_insert_0 rfl (lv_at hl 0 rfl) ?_
  refine lv_iload_n hx hb dX0_insert_1 rfl (lv_at hl 1 rfl) ?_
  refine vp_callSi ((va_runV (As := [.int x]) (rest := []) ⟨hx, hb, hml, hown, hts⟩ (c_X_isPlaceOrEnd l dC dI h0 q0 q1 n k cA cB T G T0 G0 hT hG hn hk x) (cwV 1 hts (gV_ (fun w h => List.mem_cons_of_mem _ h) k158 k160 k6 k21 k161) rfl rfl rfl (by decide +kernel) ⟨Nat.le_of_ble_eq_true rfl, Nat.le_of_ble_eq_true rfl⟩) ⟨fun a U g mk q => by obtain ⟨q0, qP, qK⟩ := q; exact ⟨q0, qP, va_K.moved (u := U) (U := U.calling g mk a) (Vm.Alike.refl U.vm) qK⟩, va_recv hK hP (ci := 0) (q0 := 0) rfl rfl, fun U hU hW => ⟨rfl, by rw [hU]; exact hP, va_K.moved hW.alike hK⟩⟩ rfl rfl hl.1 rfl (lv_room (Nat.le_of_ble_eq_true rfl)) dX0_insert_2 ⟨Nat.le_of_ble_eq_true rfl, Nat.le_of_ble_eq_true rfl⟩).run) (fun r2 w2 => ?_)
  try dsimp only at w2
  refine lv_if_ne (tgt := 10) hx hb dX0_insert_5 rfl (fun h5 => ?_) (fun h5 => ?_)
  · skip
    have h5 := (tl_b1 w2).mp h5
    obtain ⟨a, lta, rfl⟩ := tl_of (x := x) (by omega)
    have ea : (nI a).toInt = ((a : Nat) : Int) := nI_toInt lta
    refine lv_iload_n hx hb dX0_insert_10 rfl (lv_at hl 2 rfl) ?_
    refine lv_if_eq (tgt := 23) hx hb dX0_insert_11 rfl (fun h11 => ?_) (fun h11 => ?_)
    · skip
      have h11 := (tl_eq (show d.toInt = d.toInt from rfl) (show (0 : Int32).toInt = (0 : Int) from Int32.toInt_zero)).mp h11
      refine lv_aload_n hx hb dX0_insert_23 rfl (lv_at hl 0 rfl) ?_
      refine lv_iload_n hx hb dX0_insert_24 rfl (lv_at hl 1 rfl) ?_
      refine lv_iload_n hx hb dX0_insert_25 rfl (lv_at hl 1 rfl) ?_
      have hPc := hP.sub (ws' := [(h0, .inr (0, [.ref q0, .ref q1, .int (nI n), .int (nI k)])), (q0, .inl (cA, 3000, .inl T)), (q1, .inl (cB, 40, .inl G))]) [0, 1, 2] rfl
      have hDc := hD.sub (ws' := [(h0, .inr (0, [.ref q0, .ref q1, .int (nI n), .int (nI k)])), (q0, .inl (cA, 3000, .inl T)), (q1, .inl (cB, 40, .inl G))]) [0, 1, 2] (by decide) rfl
      have hKc := hK
      have hFc := va_free (wc := [(h0, .inr (0, [.ref q0, .ref q1, .int (nI n), .int (nI k)])), (q0, .inl (cA, 3000, .inl T)), (q1, .inl (cB, 40, .inl G))]) hD hS hA [0, 1, 2] rfl
      refine va_calli (va_runV (As := [.int (nI a), .int (nI a)]) (rest := []) ⟨hx, hb, hml, hown, hts⟩ (c_X_putScrap l dC dI h0 q0 q1 s.heap.size n k cA cB T G T0 G0 hT hG hn hk a a (by omega) (by omega)) (cwV 2 hts (gV_ (fun w h => List.mem_cons_of_mem _ h) k145 k147 k4 k21 k148) rfl rfl rfl (by decide +kernel) ⟨Nat.le_of_ble_eq_true rfl, Nat.le_of_ble_eq_true rfl⟩) ⟨fun a U g mk q => by obtain ⟨q0, q1, qP, qK, qD⟩ := q; exact ⟨q0, q1, qP, va_K.moved (u := U) (U := U.calling g mk a) (Vm.Alike.refl U.vm) qK, qD⟩, va_recv hKc hPc (ci := 0) (q0 := 0) rfl rfl, fun U hU hW => ⟨rfl, by rw [hU], by rw [hU]; exact hPc, va_K.moved hW.alike hKc, hDc.weaken (fun _ _ _ _ => trivial)⟩⟩ rfl rfl hl.1 rfl (lv_room (Nat.le_of_ble_eq_true rfl)) dX0_insert_26 ⟨Nat.le_of_ble_eq_true rfl, Nat.le_of_ble_eq_true rfl⟩) hS (fun q _ h => hFc q h) hFc (fun r26 u26 t H locs ht hvm w26 hB hz1 hk1 hS => ?_)
      try dsimp only at w26
      obtain ⟨n2, T2, k2, G2⟩ := u26
      obtain ⟨hP1, hK1, hD1⟩ := hB
      rw [ht] at hP1
      obtain ⟨hP, hD⟩ := va_join (wr := []) (w1 := [(h0, .inr (0, [.ref q0, .ref q1, .int (nI n2), .int (nI k2)])), (q0, .inl (cA, 3000, .inl T2)), (q1, .inl (cB, 40, .inl G2))]) hP hD [0, 1, 2] [] rfl rfl (by decide) (by decide) hk1 hFc hP1 hD1
      have hP : va_P (dC, dI) vwCl [(h0, .inr (0, [.ref q0, .ref q1, .int (nI n2), .int (nI k2)])), (q0, .inl (cA, 3000, .inl T2)), (q1, .inl (cB, 40, .inl G2))] H := hP
      have hD : va_D A [(h0, .inr (0, [.ref q0, .ref q1, .int (nI n2), .int (nI k2)])), (q0, .inl (cA, 3000, .inl T2)), (q1, .inl (cB, 40, .inl G2))] := hD
      subst hQ
      exact W.iret (v := r26) hx hb hr (fun t ht hW => ⟨⟨r26, (n2, T2, k2, G2), rfl, (by rw [show sp_insert (nI a) d y n T0 k G0 = sp_put a a G0 k n T0 k G0 from (by unfold sp_insert; (try simp only [nI_clamp lta]); (repeat' split) <;> first | rfl | (exfalso; omega))]; exact w26), by rw [ht]; exact hP, va_K.moved hW.alike hK, hD⟩, hS.F ht⟩) hS.2.2 dX0_insert_29
    · skip
      have h11 := (not_congr (tl_eq (show d.toInt = d.toInt from rfl) (show (0 : Int32).toInt = (0 : Int) from Int32.toInt_zero))).mp h11
      refine lv_aload_n hx hb dX0_insert_14 rfl (lv_at hl 0 rfl) ?_
      refine lv_iload_n hx hb dX0_insert_15 rfl (lv_at hl 1 rfl) ?_
      refine lv_lload_n hx hb dX0_insert_16 rfl (lv_at hl 3 rfl) ?_
      have hPc := hP.sub (ws' := [(h0, .inr (0, [.ref q0, .ref q1, .int (nI n), .int (nI k)])), (q0, .inl (cA, 3000, .inl T)), (q1, .inl (cB, 40, .inl G))]) [0, 1, 2] rfl
      have hDc := hD.sub (ws' := [(h0, .inr (0, [.ref q0, .ref q1, .int (nI n), .int (nI k)])), (q0, .inl (cA, 3000, .inl T)), (q1, .inl (cB, 40, .inl G))]) [0, 1, 2] (by decide) rfl
      have hKc := hK
      have hFc := va_free (wc := [(h0, .inr (0, [.ref q0, .ref q1, .int (nI n), .int (nI k)])), (q0, .inl (cA, 3000, .inl T)), (q1, .inl (cB, 40, .inl G))]) hD hS hA [0, 1, 2] rfl
      refine va_calli (va_runV (As := [.int (nI a), .long y]) (rest := []) ⟨hx, hb, hml, hown, hts⟩ (c_X_putDigits l dC dI h0 q0 q1 s.heap.size n k cA cB T G T0 G0 hT hG hn hk a y (by omega)) (cwV 2 hts (gV_ (fun w h => List.mem_cons_of_mem _ h) k69 k71 k0 k21 k72) rfl rfl rfl (by decide +kernel) ⟨Nat.le_of_ble_eq_true rfl, Nat.le_of_ble_eq_true rfl⟩) ⟨fun a U g mk q => by obtain ⟨q0, q1, qP, qK, qD⟩ := q; exact ⟨q0, q1, qP, va_K.moved (u := U) (U := U.calling g mk a) (Vm.Alike.refl U.vm) qK, qD⟩, va_recv hKc hPc (ci := 0) (q0 := 0) rfl rfl, fun U hU hW => ⟨rfl, by rw [hU], by rw [hU]; exact hPc, va_K.moved hW.alike hKc, hDc.weaken (fun _ _ _ _ => trivial)⟩⟩ rfl rfl hl.1 rfl (lv_room (Nat.le_of_ble_eq_true rfl)) dX0_insert_17 ⟨Nat.le_of_ble_eq_true rfl, Nat.le_of_ble_eq_true rfl⟩) hS (fun q _ h => hFc q h) hFc (fun r17 u17 t H locs ht hvm w17 hB hz1 hk1 hS => ?_)
      try dsimp only at w17
      obtain ⟨n2, T2, k2, G2⟩ := u17
      obtain ⟨hP1, hK1, hD1⟩ := hB
      rw [ht] at hP1
      obtain ⟨hP, hD⟩ := va_join (wr := []) (w1 := [(h0, .inr (0, [.ref q0, .ref q1, .int (nI n2), .int (nI k2)])), (q0, .inl (cA, 3000, .inl T2)), (q1, .inl (cB, 40, .inl G2))]) hP hD [0, 1, 2] [] rfl rfl (by decide) (by decide) hk1 hFc hP1 hD1
      have hP : va_P (dC, dI) vwCl [(h0, .inr (0, [.ref q0, .ref q1, .int (nI n2), .int (nI k2)])), (q0, .inl (cA, 3000, .inl T2)), (q1, .inl (cB, 40, .inl G2))] H := hP
      have hD : va_D A [(h0, .inr (0, [.ref q0, .ref q1, .int (nI n2), .int (nI k2)])), (q0, .inl (cA, 3000, .inl T2)), (q1, .inl (cB, 40, .inl G2))] := hD
      refine lv_goto (tgt := 29) hx hb dX0_insert_20 rfl ?_
      subst hQ
      exact W.iret (v := r17) hx hb hr (fun t ht hW => ⟨⟨r17, (n2, T2, k2, G2), rfl, (by rw [show sp_insert (nI a) d y n T0 k G0 = sp_put a a (dg_w y) (dg_m y) n T0 k G0 from (by unfold sp_insert; (try simp only [nI_clamp lta]); (repeat' split) <;> first | rfl | (exfalso; omega))]; exact w17), by rw [ht]; exact hP, va_K.moved hW.alike hK, hD⟩, hS.F ht⟩) hS.2.2 dX0_insert_29
  · skip
    have h5 := (tl_b0 w2).mp h5
    refine lv_iconst (v := (-1 : Int32)) hx hb dX0_insert_8 (by decide) ?_
    subst hQ
    exact W.iret (v := (-1 : Int32)) hx hb hr (fun t ht hW => ⟨⟨(-1 : Int32), (n, T, k, G), rfl, (by rw [(show sp_insert x d y n T0 k G0 = ((-1 : Int32), (n, T0, k, G0)) from (by unfold sp_insert; (repeat' split) <;> first | rfl | (exfalso; omega)))]; exact ⟨rfl, tE_mk hT hG hn hk⟩), by rw [ht]; exact hP, va_K.moved hW.alike hK, hD⟩, hS.F ht⟩) hS.2.2 dX0_insert_9
set_option maxHeartbeats 4000000 in
set_option maxRecDepth 100000 in
theorem c_X_cut (l : Launch) (dC : Nat → ClassId) (dI : Nat → Nat → Nat) (h0 q0 q1 sz n k : Nat) (cA cB : ClassId) (T G T0 G0 : Nat → Int32) (hT : ∀ j, j < n → T j = T0 j) (hG : ∀ j, j < k → G j = G0 j) (hn : n ≤ 3000) (hk : k ≤ 40) (x y : Int32) : Met l yX0_cut wsX0_cut ({ frames := 2, cells := 0, slots := 0, locals := 44 } : Room) (va_Pc [.ref h0, .int x, .int y] (fun U => U.heap.size = sz ∧ va_P (dC, dI) vwCl [(h0, .inr (0, [.ref q0, .ref q1, .int (nI n), .int (nI k)])), (q0, .inl (cA, 3000, .inl T)), (q1, .inl (cB, 40, .inl G))] U.heap ∧ va_K (dC, dI) vwCl [(cA, .int), (cB, .int)] U ∧ va_D (fun _ => True) [(h0, .inr (0, [.ref q0, .ref q1, .int (nI n), .int (nI k)])), (q0, .inl (cA, 3000, .inl T)), (q1, .inl (cB, 40, .inl G))])) (va_Qi (fun (r : Int32) (u : tS) => r = (sp_cut x y n T0 k G0).1 ∧ tE u (sp_cut x y n T0 k G0).2) (at_X dC dI (va_A [(h0, .inr (0, [.ref q0, .ref q1, .int (nI n), .int (nI k)])), (q0, .inl (cA, 3000, .inl T)), (q1, .inl (cB, 40, .inl G))] sz) h0 q0 q1 cA cB) (va_A [(h0, .inr (0, [.ref q0, .ref q1, .int (nI n), .int (nI k)])), (q0, .inl (cA, 3000, .inl T)), (q1, .inl (cB, 40, .inl G))] sz)) 0 0 (va_A [(h0, .inr (0, [.ref q0, .ref q1, .int (nI n), .int (nI k)])), (q0, .inl (cA, 3000, .inl T)), (q1, .inl (cB, 40, .inl G))] sz) := by
  refine Met.ofW (cc := cX0_cut) (maxL := 3) (ret := (some .int)) (by decide) rfl ?_
  intro p e s m args below meth c s₁ B hml hv
  obtain ⟨rfl, hsz, hP, hK, hD0⟩ := hv
  have hx := B.exec
  have hb := B.bytes
  have hr := B.returns
  have hts := atoms_spec (ws := wsX0_cut) B.pre
  have hown : s.vm.findClass RX0 = some m.cls := findClass_of_methodNamed B.named
  have hlocks := B.notSynchronized
  subst hsz
  have hD := hD0.self (sz := s.heap.size)
  generalize hAe : va_A [(h0, .inr (0, [.ref q0, .ref q1, .int (nI n), .int (nI k)])), (q0, .inl (cA, 3000, .inl T)), (q1, .inl (cB, 40, .inl G))] s.heap.size = A at hD ⊢
  have hA : ∀ q : Nat, s.heap.size ≤ q → A q := fun q h => by rw [← hAe]; exact Or.inr h
  have hS : va_S A s.heap s.heap [] := va_S.rf
  have hP : va_P (dC, dI) vwCl [(h0, .inr (0, [.ref q0, .ref q1, .int (nI n), .int (nI k)])), (q0, .inl (cA, 3000, .inl T)), (q1, .inl (cB, 40, .inl G))] s.heap := hP
  have hinX0 : ∀ w ∈ u_ws RX0 TX0 4, w ∈ wsX0_cut := fun w h => List.mem_cons_of_mem _ (inX0 w h)
  have hl := lv_entry ([.ref h0, .int x, .int y]) (n := 3) (Nat.le_of_ble_eq_true rfl)
  rw [lg_entry_eq]
  generalize (lg_sl ([.ref h0, .int x, .int y]) ++ List.replicate (3 - (lg_sl ([.ref h0, .int x, .int y])).length) Slot.unset).toArray = ls at hl ⊢
  have hl : lv_has ls 3 [(0, .ref h0), (1, .int x), (2, .int y)] := hl
  refine tl_q (fun Q hQ => ?_)
  refine lv_aload_n hx hb dX0_cut_0 rfl (lv_at hl 0 rfl) ?_
  refine lv_iload_n hx hb dX0_cut_1 rfl (lv_at hl 1 rfl) ?_
  refine vp_callSi ((va_runV (As := [.int x]) (rest := []) ⟨hx, hb, hml, hown, hts⟩ (c_X_isPlaceOrEnd l dC dI h0 q0 q1 n k cA cB T G T0 G0 hT hG hn hk x) (cwV 1 hts (gV_ (fun w h => List.mem_cons_of_mem _ h) k158 k160 k6 k21 k161) rfl rfl rfl (by decide +kernel) ⟨Nat.le_of_ble_eq_true rfl, Nat.le_of_ble_eq_true rfl⟩) ⟨fun a U g mk q => by obtain ⟨q0, qP, qK⟩ := q; exact ⟨q0, qP, va_K.moved (u := U) (U := U.calling g mk a) (Vm.Alike.refl U.vm) qK⟩, va_recv hK hP (ci := 0) (q0 := 0) rfl rfl, fun U hU hW => ⟨rfl, by rw [hU]; exact hP, va_K.moved hW.alike hK⟩⟩ rfl rfl hl.1 rfl (lv_room (Nat.le_of_ble_eq_true rfl)) dX0_cut_2 ⟨Nat.le_of_ble_eq_true rfl, Nat.le_of_ble_eq_true rfl⟩).run) (fun r2 w2 => ?_)
  try dsimp only at w2
  refine lv_if_eq (tgt := 13) hx hb dX0_cut_5 rfl (fun h5 => ?_) (fun h5 => ?_)
  · skip
    have h5 := (tl_b0 w2).mp h5
    refine lv_iconst (v := (-1 : Int32)) hx hb dX0_cut_13 (by decide) ?_
    subst hQ
    exact W.iret (v := (-1 : Int32)) hx hb hr (fun t ht hW => ⟨⟨(-1 : Int32), (n, T, k, G), rfl, (by rw [(show sp_cut x y n T0 k G0 = ((-1 : Int32), (n, T0, k, G0)) from (by unfold sp_cut; (repeat' split) <;> first | rfl | (exfalso; omega)))]; exact ⟨rfl, tE_mk hT hG hn hk⟩), by rw [ht]; exact hP, va_K.moved hW.alike hK, hD⟩, hS.F ht⟩) hS.2.2 dX0_cut_14
  · skip
    have h5 := (tl_b1 w2).mp h5
    refine lv_iload_n hx hb dX0_cut_8 rfl (lv_at hl 2 rfl) ?_
    refine lv_iload_n hx hb dX0_cut_9 rfl (lv_at hl 1 rfl) ?_
    refine lv_icmp_ge (tgt := 15) hx hb dX0_cut_10 rfl (fun h10 => ?_) (fun h10 => ?_)
    · skip
      have h10 := (tl_le (show x.toInt = x.toInt from rfl) (show y.toInt = y.toInt from rfl)).mp h10
      obtain ⟨a, lta, rfl⟩ := tl_of (x := x) (by omega)
      have ea : (nI a).toInt = ((a : Nat) : Int) := nI_toInt lta
      obtain ⟨b, ltb, rfl⟩ := tl_of (x := y) (by omega)
      have eb : (nI b).toInt = ((b : Nat) : Int) := nI_toInt ltb
      refine lv_aload_n hx hb dX0_cut_15 rfl (lv_at hl 0 rfl) ?_
      refine lv_iload_n hx hb dX0_cut_16 rfl (lv_at hl 1 rfl) ?_
      refine lv_iload_n hx hb dX0_cut_17 rfl (lv_at hl 2 rfl) ?_
      refine lv_aload_n hx hb dX0_cut_18 rfl (lv_at hl 0 rfl) ?_
      refine va_get (D := (dC, dI)) (ci := 0) (v := .int (nI n)) (C := RX0) (T := TX0) (N := 4) hx hb hts hinX0 hown hK hP 0 rfl rfl 2 (by decide) (hts _ (List.mem_cons_of_mem _ k39)) (fun _ h9 => h9) rfl dX0_cut_19 ?_
      refine va_mmin hx hb (hml.trans hl.1.symm) hown (hts _ (List.mem_cons_of_mem _ k166)) (hts _ (List.mem_cons_of_mem _ k167)) (hts _ (List.mem_cons_of_mem _ k24)) (hts _ (List.mem_cons_of_mem _ k168)) (Nat.le_of_ble_eq_true rfl) (Nat.le_of_ble_eq_true rfl) (Nat.zero_le _) (Nat.zero_le _) dX0_cut_22 ?_
      refine tl_top (y := nI (min b n)) (tl_min (by omega) (by omega)) ?_
      refine lv_iconst (v := nI 0) hx hb dX0_cut_25 (by decide) ?_
      have hPc := hP.sub (ws' := [(h0, .inr (0, [.ref q0, .ref q1, .int (nI n), .int (nI k)])), (q0, .inl (cA, 3000, .inl T)), (q1, .inl (cB, 40, .inl G))]) [0, 1, 2] rfl
      have hDc := hD.sub (ws' := [(h0, .inr (0, [.ref q0, .ref q1, .int (nI n), .int (nI k)])), (q0, .inl (cA, 3000, .inl T)), (q1, .inl (cB, 40, .inl G))]) [0, 1, 2] (by decide) rfl
      have hKc := hK
      have hFc := va_free (wc := [(h0, .inr (0, [.ref q0, .ref q1, .int (nI n), .int (nI k)])), (q0, .inl (cA, 3000, .inl T)), (q1, .inl (cB, 40, .inl G))]) hD hS hA [0, 1, 2] rfl
      refine va_callv (va_runV (As := [.int (nI a), .int (nI (min b n)), .int (nI 0)]) (rest := []) ⟨hx, hb, hml, hown, hts⟩ (c_X_makeGap l dC dI h0 q0 q1 s.heap.size n k cA cB T G T0 G0 hT hG hn hk a (min b n) 0 (by omega) (by omega) (by omega)) (cwV 3 hts (gV_ (fun w h => List.mem_cons_of_mem _ h) k81 k83 k2 k21 k84) rfl rfl rfl (by decide +kernel) ⟨Nat.le_of_ble_eq_true rfl, Nat.le_of_ble_eq_true rfl⟩) ⟨fun a U g mk q => by obtain ⟨q0, q1, qP, qK, qD⟩ := q; exact ⟨q0, q1, qP, va_K.moved (u := U) (U := U.calling g mk a) (Vm.Alike.refl U.vm) qK, qD⟩, va_recv hKc hPc (ci := 0) (q0 := 0) rfl rfl, fun U hU hW => ⟨rfl, by rw [hU], by rw [hU]; exact hPc, va_K.moved hW.alike hKc, hDc.weaken (fun _ _ _ _ => trivial)⟩⟩ rfl rfl hl.1 rfl (lv_room (Nat.le_of_ble_eq_true rfl)) dX0_cut_26 ⟨Nat.le_of_ble_eq_true rfl, Nat.le_of_ble_eq_true rfl⟩) hS (fun q _ h => hFc q h) hFc (fun u26 t H locs ht hvm w26 hB hz1 hk1 hS => ?_)
      try dsimp only at w26
      subst w26
      obtain ⟨hP1, hK1, hD1⟩ := hB
      rw [ht] at hP1
      obtain ⟨hP, hD⟩ := va_join (wr := []) (w1 := [(h0, .inr (0, [.ref q0, .ref q1, .int (nI (n - ((min b n) - a) + 0)), .int (nI k)])), (q0, .inl (cA, 3000, .inl (va_cpy T T (min b n) (a + 0) (n - (min b n))))), (q1, .inl (cB, 40, .inl G))]) hP hD [0, 1, 2] [] rfl rfl (by decide) (by decide) hk1 hFc hP1 hD1
      have hP : va_P (dC, dI) vwCl [(h0, .inr (0, [.ref q0, .ref q1, .int (nI (n - ((min b n) - a) + 0)), .int (nI k)])), (q0, .inl (cA, 3000, .inl (va_cpy T T (min b n) (a + 0) (n - (min b n))))), (q1, .inl (cB, 40, .inl G))] H := hP
      have hD : va_D A [(h0, .inr (0, [.ref q0, .ref q1, .int (nI (n - ((min b n) - a) + 0)), .int (nI k)])), (q0, .inl (cA, 3000, .inl (va_cpy T T (min b n) (a + 0) (n - (min b n))))), (q1, .inl (cB, 40, .inl G))] := hD
      refine lv_aload_n hx hb dX0_cut_29 rfl (lv_at hl 0 rfl) ?_
      refine va_get (D := (dC, dI)) (ci := 0) (v := .int (nI (n - ((min b n) - a) + 0))) (C := RX0) (T := TX0) (N := 4) hx hb hts hinX0 hown hK hP 0 rfl rfl 2 (by decide) (hts _ (List.mem_cons_of_mem _ k39)) (fun _ h9 => h9) rfl dX0_cut_30 ?_
      subst hQ
      exact W.iret (v := nI (n - ((min b n) - a) + 0)) hx hb hr (fun t ht hW => ⟨⟨nI (n - ((min b n) - a) + 0), (n - ((min b n) - a) + 0, va_cpy T T (min b n) (a + 0) (n - (min b n)), k, G), rfl, (by rw [show sp_cut (nI a) (nI b) n T0 k G0 = sp_put a (min b n) G0 0 n T0 k G0 from (by unfold sp_cut; simp only [nI_clamp lta, nI_clamp ltb]; rw [if_pos (by omega)])]; unfold sp_put; rw [if_pos (by omega)]; exact ⟨rfl, tE_mk (pu_cut hT (by omega) (by omega)) hG (by omega) hk⟩), by rw [ht]; exact hP, va_K.moved hW.alike hK, hD⟩, hS.F ht⟩) hS.2.2 dX0_cut_33
    · skip
      have h10 := (not_congr (tl_le (show x.toInt = x.toInt from rfl) (show y.toInt = y.toInt from rfl))).mp h10
      refine lv_iconst (v := (-1 : Int32)) hx hb dX0_cut_13 (by decide) ?_
      subst hQ
      exact W.iret (v := (-1 : Int32)) hx hb hr (fun t ht hW => ⟨⟨(-1 : Int32), (n, T, k, G), rfl, (by rw [(show sp_cut x y n T0 k G0 = ((-1 : Int32), (n, T0, k, G0)) from (by unfold sp_cut; (repeat' split) <;> first | rfl | (exfalso; omega)))]; exact ⟨rfl, tE_mk hT hG hn hk⟩), by rw [ht]; exact hP, va_K.moved hW.alike hK, hD⟩, hS.F ht⟩) hS.2.2 dX0_cut_14
set_option maxHeartbeats 4000000 in
set_option maxRecDepth 100000 in
theorem c_X_swap (l : Launch) (dC : Nat → ClassId) (dI : Nat → Nat → Nat) (h0 q0 q1 sz n k : Nat) (cA cB : ClassId) (T G T0 G0 : Nat → Int32) (hT : ∀ j, j < n → T j = T0 j) (hG : ∀ j, j < k → G j = G0 j) (hn : n ≤ 3000) (hk : k ≤ 40) (x y : Int32) : Met l yX0_swap wsX0_swap ({ frames := 3, cells := 0, slots := 0, locals := 66 } : Room) (va_Pc [.ref h0, .int x, .int y] (fun U => U.heap.size = sz ∧ va_P (dC, dI) vwCl [(h0, .inr (0, [.ref q0, .ref q1, .int (nI n), .int (nI k)])), (q0, .inl (cA, 3000, .inl T)), (q1, .inl (cB, 40, .inl G))] U.heap ∧ va_K (dC, dI) vwCl [(cA, .int), (cB, .int)] U ∧ va_D (fun _ => True) [(h0, .inr (0, [.ref q0, .ref q1, .int (nI n), .int (nI k)])), (q0, .inl (cA, 3000, .inl T)), (q1, .inl (cB, 40, .inl G))])) (va_Qi (fun (r : Int32) (u : tS) => r = (sp_swap x y n T0 k G0).1 ∧ tE u (sp_swap x y n T0 k G0).2) (at_X dC dI (va_A [(h0, .inr (0, [.ref q0, .ref q1, .int (nI n), .int (nI k)])), (q0, .inl (cA, 3000, .inl T)), (q1, .inl (cB, 40, .inl G))] sz) h0 q0 q1 cA cB) (va_A [(h0, .inr (0, [.ref q0, .ref q1, .int (nI n), .int (nI k)])), (q0, .inl (cA, 3000, .inl T)), (q1, .inl (cB, 40, .inl G))] sz)) 0 0 (va_A [(h0, .inr (0, [.ref q0, .ref q1, .int (nI n), .int (nI k)])), (q0, .inl (cA, 3000, .inl T)), (q1, .inl (cB, 40, .inl G))] sz) := by
  refine Met.ofW (cc := cX0_swap) (maxL := 3) (ret := (some .int)) (by decide) rfl ?_
  intro p e s m args below meth c s₁ B hml hv
  obtain ⟨rfl, hsz, hP, hK, hD0⟩ := hv
  have hx := B.exec
  have hb := B.bytes
  have hr := B.returns
  have hts := atoms_spec (ws := wsX0_swap) B.pre
  have hown : s.vm.findClass RX0 = some m.cls := findClass_of_methodNamed B.named
  have hlocks := B.notSynchronized
  subst hsz
  have hD := hD0.self (sz := s.heap.size)
  generalize hAe : va_A [(h0, .inr (0, [.ref q0, .ref q1, .int (nI n), .int (nI k)])), (q0, .inl (cA, 3000, .inl T)), (q1, .inl (cB, 40, .inl G))] s.heap.size = A at hD ⊢
  have hA : ∀ q : Nat, s.heap.size ≤ q → A q := fun q h => by rw [← hAe]; exact Or.inr h
  have hS : va_S A s.heap s.heap [] := va_S.rf
  have hP : va_P (dC, dI) vwCl [(h0, .inr (0, [.ref q0, .ref q1, .int (nI n), .int (nI k)])), (q0, .inl (cA, 3000, .inl T)), (q1, .inl (cB, 40, .inl G))] s.heap := hP
  have hinX0 : ∀ w ∈ u_ws RX0 TX0 4, w ∈ wsX0_swap := fun w h => List.mem_cons_of_mem _ (inX0 w h)
  have hl := lv_entry ([.ref h0, .int x, .int y]) (n := 3) (Nat.le_of_ble_eq_true rfl)
  rw [lg_entry_eq]
  generalize (lg_sl ([.ref h0, .int x, .int y]) ++ List.replicate (3 - (lg_sl ([.ref h0, .int x, .int y])).length) Slot.unset).toArray = ls at hl ⊢
  have hl : lv_has ls 3 [(0, .ref h0), (1, .int x), (2, .int y)] := hl
  refine tl_q (fun Q hQ => ?_)
  refine lv_aload_n hx hb dX0_swap_0 rfl (lv_at hl 0 rfl) ?_
  refine lv_iload_n hx hb dX0_swap_1 rfl (lv_at hl 1 rfl) ?_
  refine vp_callSi ((va_runV (As := [.int x]) (rest := []) ⟨hx, hb, hml, hown, hts⟩ (c_X_isPlaceOrEnd l dC dI h0 q0 q1 n k cA cB T G T0 G0 hT hG hn hk x) (cwV 1 hts (gV_ (fun w h => List.mem_cons_of_mem _ h) k158 k160 k6 k21 k161) rfl rfl rfl (by decide +kernel) ⟨Nat.le_of_ble_eq_true rfl, Nat.le_of_ble_eq_true rfl⟩) ⟨fun a U g mk q => by obtain ⟨q0, qP, qK⟩ := q; exact ⟨q0, qP, va_K.moved (u := U) (U := U.calling g mk a) (Vm.Alike.refl U.vm) qK⟩, va_recv hK hP (ci := 0) (q0 := 0) rfl rfl, fun U hU hW => ⟨rfl, by rw [hU]; exact hP, va_K.moved hW.alike hK⟩⟩ rfl rfl hl.1 rfl (lv_room (Nat.le_of_ble_eq_true rfl)) dX0_swap_2 ⟨Nat.le_of_ble_eq_true rfl, Nat.le_of_ble_eq_true rfl⟩).run) (fun r2 w2 => ?_)
  try dsimp only at w2
  refine lv_if_eq (tgt := 13) hx hb dX0_swap_5 rfl (fun h5 => ?_) (fun h5 => ?_)
  · skip
    have h5 := (tl_b0 w2).mp h5
    refine lv_iconst (v := (-1 : Int32)) hx hb dX0_swap_13 (by decide) ?_
    subst hQ
    exact W.iret (v := (-1 : Int32)) hx hb hr (fun t ht hW => ⟨⟨(-1 : Int32), (n, T, k, G), rfl, (by rw [(show sp_swap x y n T0 k G0 = ((-1 : Int32), (n, T0, k, G0)) from (by unfold sp_swap; (repeat' split) <;> first | rfl | (exfalso; omega)))]; exact ⟨rfl, tE_mk hT hG hn hk⟩), by rw [ht]; exact hP, va_K.moved hW.alike hK, hD⟩, hS.F ht⟩) hS.2.2 dX0_swap_14
  · skip
    have h5 := (tl_b1 w2).mp h5
    refine lv_iload_n hx hb dX0_swap_8 rfl (lv_at hl 2 rfl) ?_
    refine lv_iload_n hx hb dX0_swap_9 rfl (lv_at hl 1 rfl) ?_
    refine lv_icmp_ge (tgt := 15) hx hb dX0_swap_10 rfl (fun h10 => ?_) (fun h10 => ?_)
    · skip
      have h10 := (tl_le (show x.toInt = x.toInt from rfl) (show y.toInt = y.toInt from rfl)).mp h10
      obtain ⟨a, lta, rfl⟩ := tl_of (x := x) (by omega)
      have ea : (nI a).toInt = ((a : Nat) : Int) := nI_toInt lta
      obtain ⟨b, ltb, rfl⟩ := tl_of (x := y) (by omega)
      have eb : (nI b).toInt = ((b : Nat) : Int) := nI_toInt ltb
      refine lv_aload_n hx hb dX0_swap_15 rfl (lv_at hl 0 rfl) ?_
      refine lv_iload_n hx hb dX0_swap_16 rfl (lv_at hl 1 rfl) ?_
      refine lv_iload_n hx hb dX0_swap_17 rfl (lv_at hl 2 rfl) ?_
      refine lv_aload_n hx hb dX0_swap_18 rfl (lv_at hl 0 rfl) ?_
      refine va_get (D := (dC, dI)) (ci := 0) (v := .int (nI n)) (C := RX0) (T := TX0) (N := 4) hx hb hts hinX0 hown hK hP 0 rfl rfl 2 (by decide) (hts _ (List.mem_cons_of_mem _ k39)) (fun _ h9 => h9) rfl dX0_swap_19 ?_
      refine va_mmin hx hb (hml.trans hl.1.symm) hown (hts _ (List.mem_cons_of_mem _ k166)) (hts _ (List.mem_cons_of_mem _ k167)) (hts _ (List.mem_cons_of_mem _ k24)) (hts _ (List.mem_cons_of_mem _ k168)) (Nat.le_of_ble_eq_true rfl) (Nat.le_of_ble_eq_true rfl) (Nat.zero_le _) (Nat.zero_le _) dX0_swap_22 ?_
      refine tl_top (y := nI (min b n)) (tl_min (by omega) (by omega)) ?_
      have hPc := hP.sub (ws' := [(h0, .inr (0, [.ref q0, .ref q1, .int (nI n), .int (nI k)])), (q0, .inl (cA, 3000, .inl T)), (q1, .inl (cB, 40, .inl G))]) [0, 1, 2] rfl
      have hDc := hD.sub (ws' := [(h0, .inr (0, [.ref q0, .ref q1, .int (nI n), .int (nI k)])), (q0, .inl (cA, 3000, .inl T)), (q1, .inl (cB, 40, .inl G))]) [0, 1, 2] (by decide) rfl
      have hKc := hK
      have hFc := va_free (wc := [(h0, .inr (0, [.ref q0, .ref q1, .int (nI n), .int (nI k)])), (q0, .inl (cA, 3000, .inl T)), (q1, .inl (cB, 40, .inl G))]) hD hS hA [0, 1, 2] rfl
      refine va_calli (va_runV (As := [.int (nI a), .int (nI (min b n))]) (rest := []) ⟨hx, hb, hml, hown, hts⟩ (c_X_putScrap l dC dI h0 q0 q1 s.heap.size n k cA cB T G T0 G0 hT hG hn hk a (min b n) (by omega) (by omega)) (cwV 2 hts (gV_ (fun w h => List.mem_cons_of_mem _ h) k145 k147 k4 k21 k148) rfl rfl rfl (by decide +kernel) ⟨Nat.le_of_ble_eq_true rfl, Nat.le_of_ble_eq_true rfl⟩) ⟨fun a U g mk q => by obtain ⟨q0, q1, qP, qK, qD⟩ := q; exact ⟨q0, q1, qP, va_K.moved (u := U) (U := U.calling g mk a) (Vm.Alike.refl U.vm) qK, qD⟩, va_recv hKc hPc (ci := 0) (q0 := 0) rfl rfl, fun U hU hW => ⟨rfl, by rw [hU], by rw [hU]; exact hPc, va_K.moved hW.alike hKc, hDc.weaken (fun _ _ _ _ => trivial)⟩⟩ rfl rfl hl.1 rfl (lv_room (Nat.le_of_ble_eq_true rfl)) dX0_swap_25 ⟨Nat.le_of_ble_eq_true rfl, Nat.le_of_ble_eq_true rfl⟩) hS (fun q _ h => hFc q h) hFc (fun r25 u25 t H locs ht hvm w25 hB hz1 hk1 hS => ?_)
      try dsimp only at w25
      obtain ⟨n2, T2, k2, G2⟩ := u25
      obtain ⟨hP1, hK1, hD1⟩ := hB
      rw [ht] at hP1
      obtain ⟨hP, hD⟩ := va_join (wr := []) (w1 := [(h0, .inr (0, [.ref q0, .ref q1, .int (nI n2), .int (nI k2)])), (q0, .inl (cA, 3000, .inl T2)), (q1, .inl (cB, 40, .inl G2))]) hP hD [0, 1, 2] [] rfl rfl (by decide) (by decide) hk1 hFc hP1 hD1
      have hP : va_P (dC, dI) vwCl [(h0, .inr (0, [.ref q0, .ref q1, .int (nI n2), .int (nI k2)])), (q0, .inl (cA, 3000, .inl T2)), (q1, .inl (cB, 40, .inl G2))] H := hP
      have hD : va_D A [(h0, .inr (0, [.ref q0, .ref q1, .int (nI n2), .int (nI k2)])), (q0, .inl (cA, 3000, .inl T2)), (q1, .inl (cB, 40, .inl G2))] := hD
      subst hQ
      exact W.iret (v := r25) hx hb hr (fun t ht hW => ⟨⟨r25, (n2, T2, k2, G2), rfl, (by rw [show sp_swap (nI a) (nI b) n T0 k G0 = sp_put a (min b n) G0 k n T0 k G0 from (by unfold sp_swap; (try simp only [nI_clamp lta]); (try simp only [nI_clamp ltb]); (repeat' split) <;> first | rfl | (exfalso; omega))]; exact w25), by rw [ht]; exact hP, va_K.moved hW.alike hK, hD⟩, hS.F ht⟩) hS.2.2 dX0_swap_28
    · skip
      have h10 := (not_congr (tl_le (show x.toInt = x.toInt from rfl) (show y.toInt = y.toInt from rfl))).mp h10
      refine lv_iconst (v := (-1 : Int32)) hx hb dX0_swap_13 (by decide) ?_
      subst hQ
      exact W.iret (v := (-1 : Int32)) hx hb hr (fun t ht hW => ⟨⟨(-1 : Int32), (n, T, k, G), rfl, (by rw [(show sp_swap x y n T0 k G0 = ((-1 : Int32), (n, T0, k, G0)) from (by unfold sp_swap; (repeat' split) <;> first | rfl | (exfalso; omega)))]; exact ⟨rfl, tE_mk hT hG hn hk⟩), by rw [ht]; exact hP, va_K.moved hW.alike hK, hD⟩, hS.F ht⟩) hS.2.2 dX0_swap_14
