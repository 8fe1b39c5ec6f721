set_option maxHeartbeats 4000000 in
set_option maxRecDepth 100000 in
theorem c_X_putScrap (l : Launch) (dC : Nat → ClassId) (dI : Nat → Nat → Nat) (h0 q0 q1 sz n k : Nat) (cA cB : ClassId) (T G T0 G0 : Nat → Int32) (hT : ∀ j, j < n → T j = T0 j) (hG : ∀ j, j < k → G j = G0 j) (hn : n ≤ 3000) (hk : k ≤ 40) (a b : Nat) (hab : a ≤ b) (hbn : b ≤ n) : Met l yX0_putScrap wsX0_putScrap ({ frames := 2, cells := 0, slots := 0, locals := 44 } : Room) (va_Pc [.ref h0, .int (nI a), .int (nI b)] (fun U => U.heap.size = sz ∧ va_P (dC, dI) vwCl [(h0, .inr (0, [.ref q0, .ref q1, .int (nI n), .int (nI k)])), (q0, .inl (cA, 3000, .inl T)), (q1, .inl (cB, 40, .inl G))] U.heap ∧ va_K (dC, dI) vwCl [(cA, .int), (cB, .int)] U ∧ va_D (fun _ => True) [(h0, .inr (0, [.ref q0, .ref q1, .int (nI n), .int (nI k)])), (q0, .inl (cA, 3000, .inl T)), (q1, .inl (cB, 40, .inl G))])) (va_Qi (fun (r : Int32) (u : tS) => r = (sp_put a b G0 k n T0 k G0).1 ∧ tE u (sp_put a b G0 k n T0 k G0).2) (at_X dC dI (va_A [(h0, .inr (0, [.ref q0, .ref q1, .int (nI n), .int (nI k)])), (q0, .inl (cA, 3000, .inl T)), (q1, .inl (cB, 40, .inl G))] sz) h0 q0 q1 cA cB) (va_A [(h0, .inr (0, [.ref q0, .ref q1, .int (nI n), .int (nI k)])), (q0, .inl (cA, 3000, .inl T)), (q1, .inl (cB, 40, .inl G))] sz)) 0 0 (va_A [(h0, .inr (0, [.ref q0, .ref q1, .int (nI n), .int (nI k)])), (q0, .inl (cA, 3000, .inl T)), (q1, .inl (cB, 40, .inl G))] sz) := by
  refine Met.ofW (cc := cX0_putScrap) (maxL := 3) (ret := (some .int)) (by decide) rfl ?_
  intro p e s m args below meth c s₁ B hml hv
  obtain ⟨rfl, hsz, hP, hK, hD0⟩ := hv
  have hx := B.exec
  have hb := B.bytes
  have hr := B.returns
  have hts := atoms_spec (ws := wsX0_putScrap) B.pre
  have hown : s.vm.findClass RX0 = some m.cls := findClass_of_methodNamed B.named
  have hlocks := B.notSynchronized
  subst hsz
  have hD := hD0.self (sz := s.heap.size)
  generalize hAe : va_A [(h0, .inr (0, [.ref q0, .ref q1, .int (nI n), .int (nI k)])), (q0, .inl (cA, 3000, .inl T)), (q1, .inl (cB, 40, .inl G))] s.heap.size = A at hD ⊢
  have hA : ∀ q : Nat, s.heap.size ≤ q → A q := fun q h => by rw [← hAe]; exact Or.inr h
  have hS : va_S A s.heap s.heap [] := va_S.rf
  have hP : va_P (dC, dI) vwCl [(h0, .inr (0, [.ref q0, .ref q1, .int (nI n), .int (nI k)])), (q0, .inl (cA, 3000, .inl T)), (q1, .inl (cB, 40, .inl G))] s.heap := hP
  have hinX0 : ∀ w ∈ u_ws RX0 TX0 4, w ∈ wsX0_putScrap := fun w h => List.mem_cons_of_mem _ (inX0 w h)
  have hl := lv_entry ([.ref h0, .int (nI a), .int (nI b)]) (n := 3) (Nat.le_of_ble_eq_true rfl)
  rw [lg_entry_eq]
  generalize (lg_sl ([.ref h0, .int (nI a), .int (nI b)]) ++ List.replicate (3 - (lg_sl ([.ref h0, .int (nI a), .int (nI b)])).length) Slot.unset).toArray = ls at hl ⊢
  have hl : lv_has ls 3 [(0, .ref h0), (1, .int (nI a)), (2, .int (nI b))] := hl
  refine tl_q (fun Q hQ => ?_)
  refine lv_aload_n hx hb dX0_putScrap_0 rfl (lv_at hl 0 rfl) ?_
  refine lv_aload_n hx hb dX0_putScrap_1 rfl (lv_at hl 0 rfl) ?_
  refine va_get (D := (dC, dI)) (ci := 0) (v := .int (nI k)) (C := RX0) (T := TX0) (N := 4) hx hb hts hinX0 hown hK hP 0 rfl rfl 3 (by decide) (hts _ (List.mem_cons_of_mem _ k40)) (fun _ h9 => h9) rfl dX0_putScrap_2 ?_
  refine lv_iload_n hx hb dX0_putScrap_5 rfl (lv_at hl 2 rfl) ?_
  refine lv_iload_n hx hb dX0_putScrap_6 rfl (lv_at hl 1 rfl) ?_
  refine lv_isub hx hb dX0_putScrap_7 ?_
  refine tl_top (pk_sub (by omega)) ?_
  refine lv_isub hx hb dX0_putScrap_8 ?_
  have e8 : ((nI k) - (nI (b - a))).toInt = ((k : Nat) : Int) - (((b - a : Nat) : Int)) := tl_subv (nI_toInt (by omega)) (nI_toInt (by omega)) (by omega) (by omega)
  refine vp_callSi ((va_runV (As := [.int ((nI k) - (nI (b - a)))]) (rest := []) ⟨hx, hb, hml, hown, hts⟩ (c_X_hasRoom l dC dI h0 q0 q1 n k cA cB T G T0 G0 hT hG hn hk ((nI k) - (nI (b - a))) (by omega) (by omega)) (cwV 1 hts (gV_ (fun w h => List.mem_cons_of_mem _ h) k77 k79 k1 k21 k80) rfl rfl rfl (by decide +kernel) ⟨Nat.le_of_ble_eq_true rfl, Nat.le_of_ble_eq_true rfl⟩) ⟨fun a U g mk q => by obtain ⟨q0, qP, qK⟩ := q; exact ⟨q0, qP, va_K.moved (u := U) (U := U.calling g mk a) (Vm.Alike.refl U.vm) qK⟩, va_recv hK hP (ci := 0) (q0 := 0) rfl rfl, fun U hU hW => ⟨rfl, by rw [hU]; exact hP, va_K.moved hW.alike hK⟩⟩ rfl rfl hl.1 rfl (lv_room (Nat.le_of_ble_eq_true rfl)) dX0_putScrap_9 ⟨Nat.le_of_ble_eq_true rfl, Nat.le_of_ble_eq_true rfl⟩).run) (fun r9 w9 => ?_)
  try dsimp only at w9
  refine lv_if_ne (tgt := 18) hx hb dX0_putScrap_12 rfl (fun h12 => ?_) (fun h12 => ?_)
  · skip
    have h12 := (tl_b1 w9).mp h12
    refine lv_aload_n hx hb dX0_putScrap_18 rfl (lv_at hl 0 rfl) ?_
    refine lv_iload_n hx hb dX0_putScrap_19 rfl (lv_at hl 1 rfl) ?_
    refine lv_iload_n hx hb dX0_putScrap_20 rfl (lv_at hl 2 rfl) ?_
    refine lv_aload_n hx hb dX0_putScrap_21 rfl (lv_at hl 0 rfl) ?_
    refine va_get (D := (dC, dI)) (ci := 0) (v := .int (nI k)) (C := RX0) (T := TX0) (N := 4) hx hb hts hinX0 hown hK hP 0 rfl rfl 3 (by decide) (hts _ (List.mem_cons_of_mem _ k40)) (fun _ h9 => h9) rfl dX0_putScrap_22 ?_
    have hPc := hP.sub (ws' := [(h0, .inr (0, [.ref q0, .ref q1, .int (nI n), .int (nI k)])), (q0, .inl (cA, 3000, .inl T)), (q1, .inl (cB, 40, .inl G))]) [0, 1, 2] rfl
    have hDc := hD.sub (ws' := [(h0, .inr (0, [.ref q0, .ref q1, .int (nI n), .int (nI k)])), (q0, .inl (cA, 3000, .inl T)), (q1, .inl (cB, 40, .inl G))]) [0, 1, 2] (by decide) rfl
    have hKc := hK
    have hFc := va_free (wc := [(h0, .inr (0, [.ref q0, .ref q1, .int (nI n), .int (nI k)])), (q0, .inl (cA, 3000, .inl T)), (q1, .inl (cB, 40, .inl G))]) hD hS hA [0, 1, 2] rfl
    refine va_callv (va_runV (As := [.int (nI a), .int (nI b), .int (nI k)]) (rest := []) ⟨hx, hb, hml, hown, hts⟩ (c_X_makeGap l dC dI h0 q0 q1 s.heap.size n k cA cB T G T0 G0 hT hG hn hk a b k (by omega) (by omega) (by omega)) (cwV 3 hts (gV_ (fun w h => List.mem_cons_of_mem _ h) k81 k83 k2 k21 k84) rfl rfl rfl (by decide +kernel) ⟨Nat.le_of_ble_eq_true rfl, Nat.le_of_ble_eq_true rfl⟩) ⟨fun a U g mk q => by obtain ⟨q0, q1, qP, qK, qD⟩ := q; exact ⟨q0, q1, qP, va_K.moved (u := U) (U := U.calling g mk a) (Vm.Alike.refl U.vm) qK, qD⟩, va_recv hKc hPc (ci := 0) (q0 := 0) rfl rfl, fun U hU hW => ⟨rfl, by rw [hU], by rw [hU]; exact hPc, va_K.moved hW.alike hKc, hDc.weaken (fun _ _ _ _ => trivial)⟩⟩ rfl rfl hl.1 rfl (lv_room (Nat.le_of_ble_eq_true rfl)) dX0_putScrap_25 ⟨Nat.le_of_ble_eq_true rfl, Nat.le_of_ble_eq_true rfl⟩) hS (fun q _ h => hFc q h) hFc (fun u25 t H locs ht hvm w25 hB hz1 hk1 hS => ?_)
    try dsimp only at w25
    subst w25
    obtain ⟨hP1, hK1, hD1⟩ := hB
    rw [ht] at hP1
    obtain ⟨hP, hD⟩ := va_join (wr := []) (w1 := [(h0, .inr (0, [.ref q0, .ref q1, .int (nI (n - (b - a) + k)), .int (nI k)])), (q0, .inl (cA, 3000, .inl (va_cpy T T b (a + k) (n - b)))), (q1, .inl (cB, 40, .inl G))]) hP hD [0, 1, 2] [] rfl rfl (by decide) (by decide) hk1 hFc hP1 hD1
    have hP : va_P (dC, dI) vwCl [(h0, .inr (0, [.ref q0, .ref q1, .int (nI (n - (b - a) + k)), .int (nI k)])), (q0, .inl (cA, 3000, .inl (va_cpy T T b (a + k) (n - b)))), (q1, .inl (cB, 40, .inl G))] H := hP
    have hD : va_D A [(h0, .inr (0, [.ref q0, .ref q1, .int (nI (n - (b - a) + k)), .int (nI k)])), (q0, .inl (cA, 3000, .inl (va_cpy T T b (a + k) (n - b)))), (q1, .inl (cB, 40, .inl G))] := hD
    refine lv_aload_n hx hb dX0_putScrap_28 rfl (lv_at hl 0 rfl) ?_
    refine va_get (D := (dC, dI)) (ci := 0) (v := .ref q1) (C := RX0) (T := TX0) (N := 4) hx hb hts hinX0 hown hK hP 0 rfl rfl 1 (by decide) (hts _ (List.mem_cons_of_mem _ k38)) (fun _ h9 => h9) rfl dX0_putScrap_29 ?_
    refine lv_iconst (v := nI 0) hx hb dX0_putScrap_32 (by decide) ?_
    refine lv_aload_n hx hb dX0_putScrap_33 rfl (lv_at hl 0 rfl) ?_
    refine va_get (D := (dC, dI)) (ci := 0) (v := .ref q0) (C := RX0) (T := TX0) (N := 4) hx hb hts hinX0 hown hK hP 0 rfl rfl 0 (by decide) (hts _ (List.mem_cons_of_mem _ k37)) (fun _ h9 => h9) rfl dX0_putScrap_34 ?_
    refine lv_iload_n hx hb dX0_putScrap_37 rfl (lv_at hl 1 rfl) ?_
    refine lv_aload_n hx hb dX0_putScrap_38 rfl (lv_at hl 0 rfl) ?_
    refine va_get (D := (dC, dI)) (ci := 0) (v := .int (nI k)) (C := RX0) (T := TX0) (N := 4) hx hb hts hinX0 hown hK hP 0 rfl rfl 3 (by decide) (hts _ (List.mem_cons_of_mem _ k40)) (fun _ h9 => h9) rfl dX0_putScrap_39 ?_
    refine tl_copy hx hb (hml.trans hl.1.symm) hown (hts _ (List.mem_cons_of_mem _ k85)) (hts _ (List.mem_cons_of_mem _ k87)) (hts _ (List.mem_cons_of_mem _ k86)) (hts _ (List.mem_cons_of_mem _ k23)) hK hP hD hS 2 1 1 0 rfl rfl rfl rfl (by decide) (by decide) (by omega) (by omega) (Nat.le_of_ble_eq_true rfl) (Nat.le_of_ble_eq_true rfl) dX0_putScrap_42 (fun H locs hP hD hS => ?_)
    have hP : va_P (dC, dI) vwCl [(h0, .inr (0, [.ref q0, .ref q1, .int (nI (n - (b - a) + k)), .int (nI k)])), (q0, .inl (cA, 3000, .inl (va_cpy G (va_cpy T T b (a + k) (n - b)) 0 a k))), (q1, .inl (cB, 40, .inl G))] H := hP
    have hD : va_D A [(h0, .inr (0, [.ref q0, .ref q1, .int (nI (n - (b - a) + k)), .int (nI k)])), (q0, .inl (cA, 3000, .inl (va_cpy G (va_cpy T T b (a + k) (n - b)) 0 a k))), (q1, .inl (cB, 40, .inl G))] := hD
    refine lv_aload_n hx hb dX0_putScrap_45 rfl (lv_at hl 0 rfl) ?_
    refine va_get (D := (dC, dI)) (ci := 0) (v := .int (nI (n - (b - a) + k))) (C := RX0) (T := TX0) (N := 4) hx hb hts hinX0 hown hK hP 0 rfl rfl 2 (by decide) (hts _ (List.mem_cons_of_mem _ k39)) (fun _ h9 => h9) rfl dX0_putScrap_46 ?_
    subst hQ
    exact W.iret (v := nI (n - (b - a) + k)) hx hb hr (fun t ht hW => ⟨⟨nI (n - (b - a) + k), (n - (b - a) + k, va_cpy G (va_cpy T T b (a + k) (n - b)) 0 a k, k, G), rfl, (by unfold sp_put; rw [if_pos (by omega)]; exact ⟨rfl, tE_mk (pu_scrap hT hG hab hbn) hG (by omega) hk⟩), by rw [ht]; exact hP, va_K.moved hW.alike hK, hD⟩, hS.F ht⟩) hS.2.2 dX0_putScrap_49
  · skip
    have h12 := (tl_b0 w9).mp h12
    refine lv_bipush (v := (-3 : Int32)) hx hb dX0_putScrap_15 (by decide) ?_
    subst hQ
    exact W.iret (v := (-3 : Int32)) hx hb hr (fun t ht hW => ⟨⟨(-3 : Int32), (n, T, k, G), rfl, (by unfold sp_put; rw [if_neg (by omega)]; exact ⟨rfl, tE_mk hT hG hn hk⟩), by rw [ht]; exact hP, va_K.moved hW.alike hK, hD⟩, hS.F ht⟩) hS.2.2 dX0_putScrap_17
set_option maxHeartbeats 4000000 in
set_option maxRecDepth 100000 in
theorem c_X_putSign (l : Launch) (dC : Nat → ClassId) (dI : Nat → Nat → Nat) (h0 q0 q1 sz n k : Nat) (cA cB : ClassId) (T G T0 G0 : Nat → Int32) (hT : ∀ j, j < n → T j = T0 j) (hG : ∀ j, j < k → G j = G0 j) (hn : n ≤ 3000) (hk : k ≤ 40) (a : Nat) (y : Int32) (han : a ≤ n) : Met l yX0_putSign wsX0_putSign ({ frames := 2, cells := 0, slots := 0, locals := 44 } : Room) (va_Pc [.ref h0, .int (nI a), .int y] (fun U => U.heap.size = sz ∧ va_P (dC, dI) vwCl [(h0, .inr (0, [.ref q0, .ref q1, .int (nI n), .int (nI k)])), (q0, .inl (cA, 3000, .inl T)), (q1, .inl (cB, 40, .inl G))] U.heap ∧ va_K (dC, dI) vwCl [(cA, .int), (cB, .int)] U ∧ va_D (fun _ => True) [(h0, .inr (0, [.ref q0, .ref q1, .int (nI n), .int (nI k)])), (q0, .inl (cA, 3000, .inl T)), (q1, .inl (cB, 40, .inl G))])) (va_Qi (fun (r : Int32) (u : tS) => r = (sp_put a a (fun _ => y) 1 n T0 k G0).1 ∧ tE u (sp_put a a (fun _ => y) 1 n T0 k G0).2) (at_X dC dI (va_A [(h0, .inr (0, [.ref q0, .ref q1, .int (nI n), .int (nI k)])), (q0, .inl (cA, 3000, .inl T)), (q1, .inl (cB, 40, .inl G))] sz) h0 q0 q1 cA cB) (va_A [(h0, .inr (0, [.ref q0, .ref q1, .int (nI n), .int (nI k)])), (q0, .inl (cA, 3000, .inl T)), (q1, .inl (cB, 40, .inl G))] sz)) 0 0 (va_A [(h0, .inr (0, [.ref q0, .ref q1, .int (nI n), .int (nI k)])), (q0, .inl (cA, 3000, .inl T)), (q1, .inl (cB, 40, .inl G))] sz) := by
  refine Met.ofW (cc := cX0_putSign) (maxL := 3) (ret := (some .int)) (by decide) rfl ?_
  intro p e s m args below meth c s₁ B hml hv
  obtain ⟨rfl, hsz, hP, hK, hD0⟩ := hv
  have hx := B.exec
  have hb := B.bytes
  have hr := B.returns
  have hts := atoms_spec (ws := wsX0_putSign) B.pre
  have hown : s.vm.findClass RX0 = some m.cls := findClass_of_methodNamed B.named
  have hlocks := B.notSynchronized
  subst hsz
  have hD := hD0.self (sz := s.heap.size)
  generalize hAe : va_A [(h0, .inr (0, [.ref q0, .ref q1, .int (nI n), .int (nI k)])), (q0, .inl (cA, 3000, .inl T)), (q1, .inl (cB, 40, .inl G))] s.heap.size = A at hD ⊢
  have hA : ∀ q : Nat, s.heap.size ≤ q → A q := fun q h => by rw [← hAe]; exact Or.inr h
  have hS : va_S A s.heap s.heap [] := va_S.rf
  have hP : va_P (dC, dI) vwCl [(h0, .inr (0, [.ref q0, .ref q1, .int (nI n), .int (nI k)])), (q0, .inl (cA, 3000, .inl T)), (q1, .inl (cB, 40, .inl G))] s.heap := hP
  have hinX0 : ∀ w ∈ u_ws RX0 TX0 4, w ∈ wsX0_putSign := fun w h => List.mem_cons_of_mem _ (inX0 w h)
  have hl := lv_entry ([.ref h0, .int (nI a), .int y]) (n := 3) (Nat.le_of_ble_eq_true rfl)
  rw [lg_entry_eq]
  generalize (lg_sl ([.ref h0, .int (nI a), .int y]) ++ List.replicate (3 - (lg_sl ([.ref h0, .int (nI a), .int y])).length) Slot.unset).toArray = ls at hl ⊢
  have hl : lv_has ls 3 [(0, .ref h0), (1, .int (nI a)), (2, .int y)] := hl
  refine tl_q (fun Q hQ => ?_)
  refine lv_aload_n hx hb dX0_putSign_0 rfl (lv_at hl 0 rfl) ?_
  refine lv_iconst (v := nI 1) hx hb dX0_putSign_1 (by decide) ?_
  have ea2_0 : (nI 1).toInt = (1 : Int) := (by decide)
  refine vp_callSi ((va_runV (As := [.int (nI 1)]) (rest := []) ⟨hx, hb, hml, hown, hts⟩ (c_X_hasRoom l dC dI h0 q0 q1 n k cA cB T G T0 G0 hT hG hn hk (nI 1) (by omega) (by omega)) (cwV 1 hts (gV_ (fun w h => List.mem_cons_of_mem _ h) k77 k79 k1 k21 k80) rfl rfl rfl (by decide +kernel) ⟨Nat.le_of_ble_eq_true rfl, Nat.le_of_ble_eq_true rfl⟩) ⟨fun a U g mk q => by obtain ⟨q0, qP, qK⟩ := q; exact ⟨q0, qP, va_K.moved (u := U) (U := U.calling g mk a) (Vm.Alike.refl U.vm) qK⟩, va_recv hK hP (ci := 0) (q0 := 0) rfl rfl, fun U hU hW => ⟨rfl, by rw [hU]; exact hP, va_K.moved hW.alike hK⟩⟩ rfl rfl hl.1 rfl (lv_room (Nat.le_of_ble_eq_true rfl)) dX0_putSign_2 ⟨Nat.le_of_ble_eq_true rfl, Nat.le_of_ble_eq_true rfl⟩).run) (fun r2 w2 => ?_)
  try dsimp only at w2
  refine lv_if_ne (tgt := 11) hx hb dX0_putSign_5 rfl (fun h5 => ?_) (fun h5 => ?_)
  · skip
    have h5 := (tl_b1 w2).mp h5
    refine lv_aload_n hx hb dX0_putSign_11 rfl (lv_at hl 0 rfl) ?_
    refine lv_iload_n hx hb dX0_putSign_12 rfl (lv_at hl 1 rfl) ?_
    refine lv_iload_n hx hb dX0_putSign_13 rfl (lv_at hl 1 rfl) ?_
    refine lv_iconst (v := nI 1) hx hb dX0_putSign_14 (by decide) ?_
    have hPc := hP.sub (ws' := [(h0, .inr (0, [.ref q0, .ref q1, .int (nI n), .int (nI k)])), (q0, .inl (cA, 3000, .inl T)), (q1, .inl (cB, 40, .inl G))]) [0, 1, 2] rfl
    have hDc := hD.sub (ws' := [(h0, .inr (0, [.ref q0, .ref q1, .int (nI n), .int (nI k)])), (q0, .inl (cA, 3000, .inl T)), (q1, .inl (cB, 40, .inl G))]) [0, 1, 2] (by decide) rfl
    have hKc := hK
    have hFc := va_free (wc := [(h0, .inr (0, [.ref q0, .ref q1, .int (nI n), .int (nI k)])), (q0, .inl (cA, 3000, .inl T)), (q1, .inl (cB, 40, .inl G))]) hD hS hA [0, 1, 2] rfl
    refine va_callv (va_runV (As := [.int (nI a), .int (nI a), .int (nI 1)]) (rest := []) ⟨hx, hb, hml, hown, hts⟩ (c_X_makeGap l dC dI h0 q0 q1 s.heap.size n k cA cB T G T0 G0 hT hG hn hk a a 1 (by omega) (by omega) (by omega)) (cwV 3 hts (gV_ (fun w h => List.mem_cons_of_mem _ h) k81 k83 k2 k21 k84) rfl rfl rfl (by decide +kernel) ⟨Nat.le_of_ble_eq_true rfl, Nat.le_of_ble_eq_true rfl⟩) ⟨fun a U g mk q => by obtain ⟨q0, q1, qP, qK, qD⟩ := q; exact ⟨q0, q1, qP, va_K.moved (u := U) (U := U.calling g mk a) (Vm.Alike.refl U.vm) qK, qD⟩, va_recv hKc hPc (ci := 0) (q0 := 0) rfl rfl, fun U hU hW => ⟨rfl, by rw [hU], by rw [hU]; exact hPc, va_K.moved hW.alike hKc, hDc.weaken (fun _ _ _ _ => trivial)⟩⟩ rfl rfl hl.1 rfl (lv_room (Nat.le_of_ble_eq_true rfl)) dX0_putSign_15 ⟨Nat.le_of_ble_eq_true rfl, Nat.le_of_ble_eq_true rfl⟩) hS (fun q _ h => hFc q h) hFc (fun u15 t H locs ht hvm w15 hB hz1 hk1 hS => ?_)
    try dsimp only at w15
    subst w15
    obtain ⟨hP1, hK1, hD1⟩ := hB
    rw [ht] at hP1
    obtain ⟨hP, hD⟩ := va_join (wr := []) (w1 := [(h0, .inr (0, [.ref q0, .ref q1, .int (nI (n - (a - a) + 1)), .int (nI k)])), (q0, .inl (cA, 3000, .inl (va_cpy T T a (a + 1) (n - a)))), (q1, .inl (cB, 40, .inl G))]) hP hD [0, 1, 2] [] rfl rfl (by decide) (by decide) hk1 hFc hP1 hD1
    have hP : va_P (dC, dI) vwCl [(h0, .inr (0, [.ref q0, .ref q1, .int (nI (n - (a - a) + 1)), .int (nI k)])), (q0, .inl (cA, 3000, .inl (va_cpy T T a (a + 1) (n - a)))), (q1, .inl (cB, 40, .inl G))] H := hP
    have hD : va_D A [(h0, .inr (0, [.ref q0, .ref q1, .int (nI (n - (a - a) + 1)), .int (nI k)])), (q0, .inl (cA, 3000, .inl (va_cpy T T a (a + 1) (n - a)))), (q1, .inl (cB, 40, .inl G))] := hD
    refine lv_aload_n hx hb dX0_putSign_18 rfl (lv_at hl 0 rfl) ?_
    refine va_get (D := (dC, dI)) (ci := 0) (v := .ref q0) (C := RX0) (T := TX0) (N := 4) hx hb hts hinX0 hown hK hP 0 rfl rfl 0 (by decide) (hts _ (List.mem_cons_of_mem _ k37)) (fun _ h9 => h9) rfl dX0_putSign_19 ?_
    refine lv_iload_n hx hb dX0_putSign_22 rfl (lv_at hl 1 rfl) ?_
    refine lv_iload_n hx hb dX0_putSign_23 rfl (lv_at hl 2 rfl) ?_
    refine tl_iast hx hb hK hP hD hS 1 0 rfl rfl (by omega) (by decide) dX0_putSign_24 (fun H locs hP hD hS => ?_)
    have hP : va_P (dC, dI) vwCl [(h0, .inr (0, [.ref q0, .ref q1, .int (nI (n - (a - a) + 1)), .int (nI k)])), (q0, .inl (cA, 3000, .inl (upd (va_cpy T T a (a + 1) (n - a)) a y))), (q1, .inl (cB, 40, .inl G))] H := hP
    have hD : va_D A [(h0, .inr (0, [.ref q0, .ref q1, .int (nI (n - (a - a) + 1)), .int (nI k)])), (q0, .inl (cA, 3000, .inl (upd (va_cpy T T a (a + 1) (n - a)) a y))), (q1, .inl (cB, 40, .inl G))] := hD
    refine lv_aload_n hx hb dX0_putSign_25 rfl (lv_at hl 0 rfl) ?_
    refine va_get (D := (dC, dI)) (ci := 0) (v := .int (nI (n - (a - a) + 1))) (C := RX0) (T := TX0) (N := 4) hx hb hts hinX0 hown hK hP 0 rfl rfl 2 (by decide) (hts _ (List.mem_cons_of_mem _ k39)) (fun _ h9 => h9) rfl dX0_putSign_26 ?_
    subst hQ
    exact W.iret (v := nI (n - (a - a) + 1)) hx hb hr (fun t ht hW => ⟨⟨nI (n - (a - a) + 1), (n - (a - a) + 1, upd (va_cpy T T a (a + 1) (n - a)) a y, k, G), rfl, (by unfold sp_put; rw [if_pos (by omega)]; exact ⟨rfl, tE_mk (pu_sign hT han) hG (by omega) hk⟩), by rw [ht]; exact hP, va_K.moved hW.alike hK, hD⟩, hS.F ht⟩) hS.2.2 dX0_putSign_29
  · skip
    have h5 := (tl_b0 w2).mp h5
    refine lv_bipush (v := (-3 : Int32)) hx hb dX0_putSign_8 (by decide) ?_
    subst hQ
    exact W.iret (v := (-3 : Int32)) hx hb hr (fun t ht hW => ⟨⟨(-3 : Int32), (n, T, k, G), rfl, (by unfold sp_put; rw [if_neg (by omega)]; exact ⟨rfl, tE_mk hT hG hn hk⟩), by rw [ht]; exact hP, va_K.moved hW.alike hK, hD⟩, hS.F ht⟩) hS.2.2 dX0_putSign_10
set_option maxHeartbeats 4000000 in
set_option maxRecDepth 100000 in
theorem c_X_countDigits (l : Launch) (x : Int64) : Met l yX0_countDigits wsX0_countDigits ({ frames := 0, cells := 0, slots := 0, locals := 0 } : Room) (va_Pc [.long x] (fun _ => True)) (vp_Si (fun r : Int32 => r = nI (dg_c x.toInt.natAbs))) 0 0 (fun _ => False) := by
  refine Met.ofW (cc := cX0_countDigits) (maxL := 5) (ret := (some .int)) (by decide) rfl ?_
  intro p e s m args below meth c s₁ B hml hv
  obtain ⟨rfl, -⟩ := hv
  have hx := B.exec
  have hb := B.bytes
  have hr := B.returns
  have hts := atoms_spec (ws := wsX0_countDigits) B.pre
  have hown : s.vm.findClass RX0 = some m.cls := findClass_of_methodNamed B.named
  have hlocks := B.notSynchronized
  have hl := lv_entry ([.long x]) (n := 5) (Nat.le_of_ble_eq_true rfl)
  rw [lg_entry_eq]
  generalize (lg_sl ([.long x]) ++ List.replicate (5 - (lg_sl ([.long x])).length) Slot.unset).toArray = ls at hl ⊢
  have hl : lv_has ls 5 [(0, .long x)] := hl
  refine tl_q (fun Q hQ => ?_)
  refine lv_iconst (v := nI 1) hx hb dX0_countDigits_0 (by decide) ?_
  refine lv_istore_n (lv' := [(2, .int (nI 1)), (0, .long x)]) hx hb dX0_countDigits_1 rfl hl (by decide) rfl (fun ls hl => ?_)
  refine lv_lload_n hx hb dX0_countDigits_2 rfl (lv_at hl 1 rfl) ?_
  refine lv_ldc2 (v := (10 : Int64)) hx hb hown (hts _ (List.mem_cons_of_mem _ k76)) dX0_countDigits_3 ?_
  refine lv_ldiv hx hb dX0_countDigits_6 (by decide) ?_
  refine lv_lstore_n (lv' := [(3, .long (x / ((10 : Int64)))), (2, .int (nI 1)), (0, .long x)]) hx hb dX0_countDigits_7 rfl hl (by decide) rfl (fun ls hl => ?_)
  have LP8 : ∀ (fu : Nat) (y : Int64) (cn : Nat) (ls : Array Slot), 19 - cn < fu → 1 ≤ cn → cn ≤ 19 → y.toInt.natAbs = x.toInt.natAbs / 10 ^ cn → cn = 1 ∨ 10 ^ (cn - 1) ≤ x.toInt.natAbs → lv_has ls 5 [(2, .int (nI cn)), (3, .long y)] → W p l e (headSpec wsX0_countDigits ({ frames := 0, cells := 0, slots := 0, locals := 0 } : Room)).room s m ([.long x] : List Value).toArray below meth c s.heap [] 0 0 Q (F0 m 8 ls []) := by
    intro fu
    induction fu with
    | zero => intro y cn ls hfu; exact absurd hfu (Nat.not_lt_zero _)
    | succ fu ih =>
      intro y cn ls hfu hc1 hc2 hy hc3 hl
      refine lv_lload_n hx hb dX0_countDigits_8 rfl (lv_at hl 1 rfl) ?_
      refine lv_lconst (v := (0 : Int64)) hx hb dX0_countDigits_9 (by decide) ?_
      refine W.lcmp hx hb dX0_countDigits_10 ?_
      refine lv_if_eq (tgt := 32) hx hb dX0_countDigits_11 rfl (fun h11 => ?_) (fun h11 => ?_)
      · skip
        have h11 := (tl_leq (show y.toInt = y.toInt from rfl) (show ((0 : Int64)).toInt = (0 : Int) from (by decide))).mp h11
        refine lv_iload_n hx hb dX0_countDigits_32 rfl (lv_at hl 0 rfl) ?_
        subst hQ
        exact W.iret (v := nI cn) hx hb hr (fun t ht hW => ⟨nI cn, rfl, (by rw [dg_c_uni hc1 (by omega) (by first | exact dg_less hy (by omega) | (have h19 : cn = 19 := (by omega); rw [h19]; exact dg_abs_lt x)) hc3]), ht⟩) (fun q h => absurd h List.not_mem_nil) dX0_countDigits_33
      · skip
        have h11 := (not_congr (tl_leq (show y.toInt = y.toInt from rfl) (show ((0 : Int64)).toInt = (0 : Int) from (by decide)))).mp h11
        refine lv_iload_n hx hb dX0_countDigits_14 rfl (lv_at hl 0 rfl) ?_
        refine lv_bipush (v := nI 19) hx hb dX0_countDigits_15 (by decide) ?_
        refine lv_icmp_ge (tgt := 32) hx hb dX0_countDigits_17 rfl (fun h17 => ?_) (fun h17 => ?_)
        · skip
          have h17 := (tl_le (show (nI 19).toInt = (19 : Int) from (by decide)) (show (nI cn).toInt = ((cn : Nat) : Int) from (nI_toInt (by omega)))).mp h17
          refine lv_iload_n hx hb dX0_countDigits_32 rfl (lv_at hl 0 rfl) ?_
          subst hQ
          exact W.iret (v := nI cn) hx hb hr (fun t ht hW => ⟨nI cn, rfl, (by rw [dg_c_uni hc1 (by omega) (by first | exact dg_less hy (by omega) | (have h19 : cn = 19 := (by omega); rw [h19]; exact dg_abs_lt x)) hc3]), ht⟩) (fun q h => absurd h List.not_mem_nil) dX0_countDigits_33
        · skip
          have h17 := (not_congr (tl_le (show (nI 19).toInt = (19 : Int) from (by decide)) (show (nI cn).toInt = ((cn : Nat) : Int) from (nI_toInt (by omega))))).mp h17
          refine lv_iinc (lv' := [(2, .int (nI (cn + 1))), (3, .long y)]) (k := 0) (v := nI (cn + 1)) hx hb dX0_countDigits_20 hl rfl (tl_inc1 _) (by decide) rfl (fun ls hl => ?_)
          refine lv_lload_n hx hb dX0_countDigits_23 rfl (lv_at hl 1 rfl) ?_
          refine lv_ldc2 (v := (10 : Int64)) hx hb hown (hts _ (List.mem_cons_of_mem _ k76)) dX0_countDigits_24 ?_
          refine lv_ldiv hx hb dX0_countDigits_27 (by decide) ?_
          refine lv_lstore_n (lv' := [(3, .long (y / ((10 : Int64)))), (2, .int (nI (cn + 1)))]) hx hb dX0_countDigits_28 rfl hl (by decide) rfl (fun ls hl => ?_)
          refine lv_goto (tgt := 8) hx hb dX0_countDigits_29 rfl ?_
          exact ih (y / (10 : Int64)) (cn + 1) ls (by omega) (by omega) (by omega) (by rw [dg_div, hy, Nat.div_div_eq_div_mul, Nat.pow_succ]) (dg_more hy (by omega)) (lv_sub hl [1, 0] rfl)
  exact LP8 _ (x / (10 : Int64)) 1 ls (Nat.lt_succ_self _) (by omega) (by omega) (by rw [dg_div, Nat.pow_one]) (by exact Or.inl rfl) (lv_sub hl [1, 0] rfl)
set_option maxHeartbeats 4000000 in
set_option maxRecDepth 100000 in
theorem c_X_scrapStandsAt (l : Launch) (dC : Nat → ClassId) (dI : Nat → Nat → Nat) (h0 q0 q1 n k : Nat) (cA cB : ClassId) (T G T0 G0 : Nat → Int32) (hT : ∀ j, j < n → T j = T0 j) (hG : ∀ j, j < k → G j = G0 j) (hn : n ≤ 3000) (hk : k ≤ 40) (a : Nat) (hak : a + k ≤ n) : Met l yX0_scrapStandsAt wsX0_scrapStandsAt ({ frames := 0, cells := 0, slots := 0, locals := 0 } : Room) (va_Pc [.ref h0, .int (nI a)] (fun U => va_P (dC, dI) vwCl [(h0, .inr (0, [.ref q0, .ref q1, .int (nI n), .int (nI k)])), (q0, .inl (cA, 3000, .inl T)), (q1, .inl (cB, 40, .inl G))] U.heap ∧ va_K (dC, dI) vwCl [(cA, .int), (cB, .int)] U)) (vp_Si (fun r : Int32 => (r = 1 ∧ (∀ j, j < k → (T0 (a + j)).toInt = (G0 j).toInt)) ∨ (r = 0 ∧ ¬ (∀ j, j < k → (T0 (a + j)).toInt = (G0 j).toInt)))) 0 0 (fun _ => False) := by
  refine Met.ofW (cc := cX0_scrapStandsAt) (maxL := 3) (ret := (some .boolean)) (by decide) rfl ?_
  intro p e s m args below meth c s₁ B hml hv
  obtain ⟨rfl, hP, hK⟩ := hv
  have hx := B.exec
  have hb := B.bytes
  have hr := B.returns
  have hts := atoms_spec (ws := wsX0_scrapStandsAt) B.pre
  have hown : s.vm.findClass RX0 = some m.cls := findClass_of_methodNamed B.named
  have hlocks := B.notSynchronized
  have hP : va_P (dC, dI) vwCl [(h0, .inr (0, [.ref q0, .ref q1, .int (nI n), .int (nI k)])), (q0, .inl (cA, 3000, .inl T)), (q1, .inl (cB, 40, .inl G))] s.heap := hP
  have hinX0 : ∀ w ∈ u_ws RX0 TX0 4, w ∈ wsX0_scrapStandsAt := fun w h => List.mem_cons_of_mem _ (inX0 w h)
  have hl := lv_entry ([.ref h0, .int (nI a)]) (n := 3) (Nat.le_of_ble_eq_true rfl)
  rw [lg_entry_eq]
  generalize (lg_sl ([.ref h0, .int (nI a)]) ++ List.replicate (3 - (lg_sl ([.ref h0, .int (nI a)])).length) Slot.unset).toArray = ls at hl ⊢
  have hl : lv_has ls 3 [(0, .ref h0), (1, .int (nI a))] := hl
  refine tl_q (fun Q hQ => ?_)
  refine lv_iconst (v := nI 0) hx hb dX0_scrapStandsAt_0 (by decide) ?_
  refine lv_istore_n (lv' := [(2, .int (nI 0)), (0, .ref h0), (1, .int (nI a))]) hx hb dX0_scrapStandsAt_1 rfl hl (by decide) rfl (fun ls hl => ?_)
  have LP2 : ∀ (fu : Nat) (j : Nat) (ls : Array Slot), k - j < fu → j ≤ k → (∀ i, i < j → (T0 (a + i)).toInt = (G0 i).toInt) → lv_has ls 3 [(0, .ref h0), (1, .int (nI a)), (2, .int (nI j))] → W p l e (headSpec wsX0_scrapStandsAt ({ frames := 0, cells := 0, slots := 0, locals := 0 } : Room)).room s m ([.ref h0, .int (nI a)] : List Value).toArray below meth c s.heap [] 0 0 Q (F0 m 2 ls []) := by
    intro fu
    induction fu with
    | zero => intro j ls hfu; exact absurd hfu (Nat.not_lt_zero _)
    | succ fu ih =>
      intro j ls hfu hj hi hl
      refine lv_iload_n hx hb dX0_scrapStandsAt_2 rfl (lv_at hl 2 rfl) ?_
      refine lv_aload_n hx hb dX0_scrapStandsAt_3 rfl (lv_at hl 0 rfl) ?_
      refine va_get (D := (dC, dI)) (ci := 0) (v := .int (nI k)) (C := RX0) (T := TX0) (N := 4) hx hb hts hinX0 hown hK hP 0 rfl rfl 3 (by decide) (hts _ (List.mem_cons_of_mem _ k40)) (fun _ h9 => h9) rfl dX0_scrapStandsAt_4 ?_
      refine lv_icmp_ge (tgt := 35) hx hb dX0_scrapStandsAt_7 rfl (fun h7 => ?_) (fun h7 => ?_)
      · skip
        have h7 := (tl_le (show (nI k).toInt = ((k : Nat) : Int) from (nI_toInt (by omega))) (show (nI j).toInt = ((j : Nat) : Int) from (nI_toInt (by omega)))).mp h7
        refine lv_iconst (v := nI 1) hx hb dX0_scrapStandsAt_35 (by decide) ?_
        subst hQ
        exact W.zret (v := nI 1) hx hb hr (by decide) (fun t ht hW => ⟨nI 1, rfl, (Or.inl ⟨by decide, fun i hi2 => hi i (by omega)⟩), ht⟩) (fun q h => absurd h List.not_mem_nil) dX0_scrapStandsAt_36
      · skip
        have h7 := (not_congr (tl_le (show (nI k).toInt = ((k : Nat) : Int) from (nI_toInt (by omega))) (show (nI j).toInt = ((j : Nat) : Int) from (nI_toInt (by omega))))).mp h7
        refine lv_aload_n hx hb dX0_scrapStandsAt_10 rfl (lv_at hl 0 rfl) ?_
        refine va_get (D := (dC, dI)) (ci := 0) (v := .ref q0) (C := RX0) (T := TX0) (N := 4) hx hb hts hinX0 hown hK hP 0 rfl rfl 0 (by decide) (hts _ (List.mem_cons_of_mem _ k37)) (fun _ h9 => h9) rfl dX0_scrapStandsAt_11 ?_
        refine lv_iload_n hx hb dX0_scrapStandsAt_14 rfl (lv_at hl 1 rfl) ?_
        refine lv_iload_n hx hb dX0_scrapStandsAt_15 rfl (lv_at hl 2 rfl) ?_
        refine lv_iadd hx hb dX0_scrapStandsAt_16 ?_
        refine tl_top (nI_add _ _) ?_
        refine tl_iald (v := T0 (a + j)) hx hb hK hP 1 0 rfl rfl (by omega) (by decide) (hT _ (by omega)) dX0_scrapStandsAt_17 ?_
        refine lv_aload_n hx hb dX0_scrapStandsAt_18 rfl (lv_at hl 0 rfl) ?_
        refine va_get (D := (dC, dI)) (ci := 0) (v := .ref q1) (C := RX0) (T := TX0) (N := 4) hx hb hts hinX0 hown hK hP 0 rfl rfl 1 (by decide) (hts _ (List.mem_cons_of_mem _ k38)) (fun _ h9 => h9) rfl dX0_scrapStandsAt_19 ?_
        refine lv_iload_n hx hb dX0_scrapStandsAt_22 rfl (lv_at hl 2 rfl) ?_
        refine tl_iald (v := G0 j) hx hb hK hP 2 1 rfl rfl (by omega) (by decide) (hG _ (by omega)) dX0_scrapStandsAt_23 ?_
        refine lv_icmp_eq (tgt := 29) hx hb dX0_scrapStandsAt_24 rfl (fun h24 => ?_) (fun h24 => ?_)
        · skip
          have h24 := (tl_eq (show (T0 (a + j)).toInt = (T0 (a + j)).toInt from rfl) (show (G0 j).toInt = (G0 j).toInt from rfl)).mp h24
          refine lv_iinc (lv' := [(2, .int (nI (j + 1))), (0, .ref h0), (1, .int (nI a))]) (k := 2) (v := nI (j + 1)) hx hb dX0_scrapStandsAt_29 hl rfl (tl_inc1 _) (by decide) rfl (fun ls hl => ?_)
          refine lv_goto (tgt := 2) hx hb dX0_scrapStandsAt_32 rfl ?_
          exact ih (j + 1) ls (by omega) (by omega) (lt_s hi h24) (lv_sub hl [1, 2, 0] rfl)
        · skip
          have h24 := (not_congr (tl_eq (show (T0 (a + j)).toInt = (T0 (a + j)).toInt from rfl) (show (G0 j).toInt = (G0 j).toInt from rfl))).mp h24
          refine lv_iconst (v := nI 0) hx hb dX0_scrapStandsAt_27 (by decide) ?_
          subst hQ
          exact W.zret (v := nI 0) hx hb hr (by decide) (fun t ht hW => ⟨nI 0, rfl, (Or.inr ⟨by decide, fun q => h24 (q j (by omega))⟩), ht⟩) (fun q h => absurd h List.not_mem_nil) dX0_scrapStandsAt_28
  exact LP2 _ 0 ls (Nat.lt_succ_self _) (by omega) (by intro i hi; omega) (lv_sub hl [1, 2, 0] rfl)
set_option maxHeartbeats 4000000 in
set_option maxRecDepth 100000 in
theorem c_X_sumOfText (l : Launch) (dC : Nat → ClassId) (dI : Nat → Nat → Nat) (h0 q0 q1 n k : Nat) (cA cB : ClassId) (T G T0 G0 : Nat → Int32) (hT : ∀ j, j < n → T j = T0 j) (hG : ∀ j, j < k → G j = G0 j) (hn : n ≤ 3000) (hk : k ≤ 40)  : Met l yX0_sumOfText wsX0_sumOfText ({ frames := 0, cells := 0, slots := 0, locals := 0 } : Room) (va_Pc [.ref h0] (fun U => va_P (dC, dI) vwCl [(h0, .inr (0, [.ref q0, .ref q1, .int (nI n), .int (nI k)])), (q0, .inl (cA, 3000, .inl T)), (q1, .inl (cB, 40, .inl G))] U.heap ∧ va_K (dC, dI) vwCl [(cA, .int), (cB, .int)] U)) (vp_Si (fun r : Int32 => r = tl_sum T0 n)) 0 0 (fun _ => False) := by
  refine Met.ofW (cc := cX0_sumOfText) (maxL := 3) (ret := (some .int)) (by decide) rfl ?_
  intro p e s m args below meth c s₁ B hml hv
  obtain ⟨rfl, hP, hK⟩ := hv
  have hx := B.exec
  have hb := B.bytes
  have hr := B.returns
  have hts := atoms_spec (ws := wsX0_sumOfText) B.pre
  have hown : s.vm.findClass RX0 = some m.cls := findClass_of_methodNamed B.named
  have hlocks := B.notSynchronized
  have hP : va_P (dC, dI) vwCl [(h0, .inr (0, [.ref q0, .ref q1, .int (nI n), .int (nI k)])), (q0, .inl (cA, 3000, .inl T)), (q1, .inl (cB, 40, .inl G))] s.heap := hP
  have hinX0 : ∀ w ∈ u_ws RX0 TX0 4, w ∈ wsX0_sumOfText := fun w h => List.mem_cons_of_mem _ (inX0 w h)
  have hl := lv_entry ([.ref h0]) (n := 3) (Nat.le_of_ble_eq_true rfl)
  rw [lg_entry_eq]
  generalize (lg_sl ([.ref h0]) ++ List.replicate (3 - (lg_sl ([.ref h0])).length) Slot.unset).toArray = ls at hl ⊢
  have hl : lv_has ls 3 [(0, .ref h0)] := hl
  refine tl_q (fun Q hQ => ?_)
  refine lv_iconst (v := nI 0) hx hb dX0_sumOfText_0 (by decide) ?_
  refine lv_istore_n (lv' := [(1, .int (nI 0)), (0, .ref h0)]) hx hb dX0_sumOfText_1 rfl hl (by decide) rfl (fun ls hl => ?_)
  refine lv_iconst (v := nI 0) hx hb dX0_sumOfText_2 (by decide) ?_
  refine lv_istore_n (lv' := [(2, .int (nI 0)), (1, .int (nI 0)), (0, .ref h0)]) hx hb dX0_sumOfText_3 rfl hl (by decide) rfl (fun ls hl => ?_)
  have LP4 : ∀ (fu : Nat) (j : Nat) (ls : Array Slot), n - j < fu → j ≤ n → lv_has ls 3 [(0, .ref h0), (1, .int (tl_sum T0 j)), (2, .int (nI j))] → W p l e (headSpec wsX0_sumOfText ({ frames := 0, cells := 0, slots := 0, locals := 0 } : Room)).room s m ([.ref h0] : List Value).toArray below meth c s.heap [] 0 0 Q (F0 m 4 ls []) := by
    intro fu
    induction fu with
    | zero => intro j ls hfu; exact absurd hfu (Nat.not_lt_zero _)
    | succ fu ih =>
      intro j ls hfu hj hl
      refine lv_iload_n hx hb dX0_sumOfText_4 rfl (lv_at hl 2 rfl) ?_
      refine lv_aload_n hx hb dX0_sumOfText_5 rfl (lv_at hl 0 rfl) ?_
      refine va_get (D := (dC, dI)) (ci := 0) (v := .int (nI n)) (C := RX0) (T := TX0) (N := 4) hx hb hts hinX0 hown hK hP 0 rfl rfl 2 (by decide) (hts _ (List.mem_cons_of_mem _ k39)) (fun _ h9 => h9) rfl dX0_sumOfText_6 ?_
      refine lv_icmp_ge (tgt := 31) hx hb dX0_sumOfText_9 rfl (fun h9 => ?_) (fun h9 => ?_)
      · skip
        have h9 := (tl_le (show (nI n).toInt = ((n : Nat) : Int) from (nI_toInt (by omega))) (show (nI j).toInt = ((j : Nat) : Int) from (nI_toInt (by omega)))).mp h9
        refine lv_iload_n hx hb dX0_sumOfText_31 rfl (lv_at hl 1 rfl) ?_
        subst hQ
        exact W.iret (v := tl_sum T0 j) hx hb hr (fun t ht hW => ⟨tl_sum T0 j, rfl, (by rw [show j = n by omega]), ht⟩) (fun q h => absurd h List.not_mem_nil) dX0_sumOfText_32
      · skip
        have h9 := (not_congr (tl_le (show (nI n).toInt = ((n : Nat) : Int) from (nI_toInt (by omega))) (show (nI j).toInt = ((j : Nat) : Int) from (nI_toInt (by omega))))).mp h9
        refine lv_iload_n hx hb dX0_sumOfText_12 rfl (lv_at hl 1 rfl) ?_
        refine lv_iload_n hx hb dX0_sumOfText_13 rfl (lv_at hl 2 rfl) ?_
        refine lv_iconst (v := nI 1) hx hb dX0_sumOfText_14 (by decide) ?_
        refine lv_iadd hx hb dX0_sumOfText_15 ?_
        refine tl_top (nI_add _ _) ?_
        refine lv_aload_n hx hb dX0_sumOfText_16 rfl (lv_at hl 0 rfl) ?_
        refine va_get (D := (dC, dI)) (ci := 0) (v := .ref q0) (C := RX0) (T := TX0) (N := 4) hx hb hts hinX0 hown hK hP 0 rfl rfl 0 (by decide) (hts _ (List.mem_cons_of_mem _ k37)) (fun _ h9 => h9) rfl dX0_sumOfText_17 ?_
        refine lv_iload_n hx hb dX0_sumOfText_20 rfl (lv_at hl 2 rfl) ?_
        refine tl_iald (v := T0 j) hx hb hK hP 1 0 rfl rfl (by omega) (by decide) (hT _ (by omega)) dX0_sumOfText_21 ?_
        refine lv_imul hx hb dX0_sumOfText_22 ?_
        refine lv_iadd hx hb dX0_sumOfText_23 ?_
        refine tl_top (y := tl_sum T0 (j + 1)) (rfl) ?_
        refine lv_istore_n (lv' := [(1, .int (tl_sum T0 (j + 1))), (0, .ref h0), (2, .int (nI j))]) hx hb dX0_sumOfText_24 rfl hl (by decide) rfl (fun ls hl => ?_)
        refine lv_iinc (lv' := [(2, .int (nI (j + 1))), (1, .int (tl_sum T0 (j + 1))), (0, .ref h0)]) (k := 2) (v := nI (j + 1)) hx hb dX0_sumOfText_25 hl rfl (tl_inc1 _) (by decide) rfl (fun ls hl => ?_)
        refine lv_goto (tgt := 4) hx hb dX0_sumOfText_28 rfl ?_
        exact ih (j + 1) ls (by omega) (by omega) (lv_sub hl [2, 1, 0] rfl)
  exact LP4 _ 0 ls (Nat.lt_succ_self _) (by omega) (lv_sub hl [2, 1, 0] rfl)
