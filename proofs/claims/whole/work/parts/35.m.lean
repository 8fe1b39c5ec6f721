set_option maxHeartbeats 4000000 in
set_option maxRecDepth 100000 in
theorem c_M_take (l : Launch) (dC : Nat → ClassId) (dI : Nat → Nat → Nat) (h0 q0 q1 q2 sz n k : Nat) (cA cB cC : ClassId) (T G T0 G0 : Nat → Int32) (hT : ∀ j, j < n → T j = T0 j) (hG : ∀ j, j < k → G j = G0 j) (hn : n ≤ 3000) (hk : k ≤ 40) (E : Nat → Int32) (d : Int32) (x : Int32) : Met l yX1_take wsX1_take ({ frames := 1, cells := 0, slots := 0, locals := 24 } : Room) (va_Pc [.ref h0, .int x] (fun U => U.heap.size = sz ∧ va_P (dC, dI) vwCl [(h0, .inr (1, [.ref q0, .ref q1, .ref q2, .int (nI n), .int (nI k), .int d])), (q0, .inl (cA, 3000, .inl T)), (q1, .inl (cB, 40, .inl G)), (q2, .inl (cC, 20, .inl E))] U.heap ∧ va_K (dC, dI) vwCl [(cA, .int), (cB, .int), (cC, .int)] U ∧ va_D (fun _ => True) [(h0, .inr (1, [.ref q0, .ref q1, .ref q2, .int (nI n), .int (nI k), .int d])), (q0, .inl (cA, 3000, .inl T)), (q1, .inl (cB, 40, .inl G)), (q2, .inl (cC, 20, .inl E))])) (va_Qi (fun (r : Int32) (u : tM) => r = (sp_take x n T0 k G0).1 ∧ tE u.1 (sp_take x n T0 k G0).2) (at_M dC dI (va_A [(h0, .inr (1, [.ref q0, .ref q1, .ref q2, .int (nI n), .int (nI k), .int d])), (q0, .inl (cA, 3000, .inl T)), (q1, .inl (cB, 40, .inl G)), (q2, .inl (cC, 20, .inl E))] sz) h0 q0 q1 q2 cA cB cC) (va_A [(h0, .inr (1, [.ref q0, .ref q1, .ref q2, .int (nI n), .int (nI k), .int d])), (q0, .inl (cA, 3000, .inl T)), (q1, .inl (cB, 40, .inl G)), (q2, .inl (cC, 20, .inl E))] sz)) 0 0 (va_A [(h0, .inr (1, [.ref q0, .ref q1, .ref q2, .int (nI n), .int (nI k), .int d])), (q0, .inl (cA, 3000, .inl T)), (q1, .inl (cB, 40, .inl G)), (q2, .inl (cC, 20, .inl E))] sz) := by
  refine Met.ofW (cc := cX1_take) (maxL := 3) (ret := (some .int)) (by decide) rfl ?_
  intro p e s m args below meth c s₁ B hml hv
  obtain ⟨rfl, hsz, hP, hK, hD0⟩ := hv
  have hx := B.exec
  have hb := B.bytes
  have hr := B.returns
  have hts := atoms_spec (ws := wsX1_take) B.pre
  have hown : s.vm.findClass RX1 = some m.cls := findClass_of_methodNamed B.named
  have hlocks := B.notSynchronized
  subst hsz
  have hD := hD0.self (sz := s.heap.size)
  generalize hAe : va_A [(h0, .inr (1, [.ref q0, .ref q1, .ref q2, .int (nI n), .int (nI k), .int d])), (q0, .inl (cA, 3000, .inl T)), (q1, .inl (cB, 40, .inl G)), (q2, .inl (cC, 20, .inl E))] s.heap.size = A at hD ⊢
  have hA : ∀ q : Nat, s.heap.size ≤ q → A q := fun q h => by rw [← hAe]; exact Or.inr h
  have hS : va_S A s.heap s.heap [] := va_S.rf
  have hP : va_P (dC, dI) vwCl [(h0, .inr (1, [.ref q0, .ref q1, .ref q2, .int (nI n), .int (nI k), .int d])), (q0, .inl (cA, 3000, .inl T)), (q1, .inl (cB, 40, .inl G)), (q2, .inl (cC, 20, .inl E))] s.heap := hP
  have hinX1 : ∀ w ∈ u_ws RX1 TX1 6, w ∈ wsX1_take := fun w h => List.mem_cons_of_mem _ (inX1 w h)
  have hl := lv_entry ([.ref h0, .int x]) (n := 3) (Nat.le_of_ble_eq_true rfl)
  rw [lg_entry_eq]
  generalize (lg_sl ([.ref h0, .int x]) ++ List.replicate (3 - (lg_sl ([.ref h0, .int x])).length) Slot.unset).toArray = ls at hl ⊢
  have hl : lv_has ls 3 [(0, .ref h0), (1, .int x)] := hl
  refine tl_q (fun Q hQ => ?_)
  refine lv_iload_n hx hb dX1_take_0 rfl (lv_at hl 1 rfl) ?_
  refine lv_if_lt (tgt := 12) hx hb dX1_take_1 rfl (fun h1 => ?_) (fun h1 => ?_)
  · skip
    have h1 := (tl_lt (show x.toInt = x.toInt from rfl) (show (0 : Int32).toInt = (0 : Int) from Int32.toInt_zero)).mp h1
    refine lv_iconst (v := (-1 : Int32)) hx hb dX1_take_12 (by decide) ?_
    subst hQ
    exact W.iret (v := (-1 : Int32)) hx hb hr (fun t ht hW => ⟨⟨(-1 : Int32), ((n, T, k, G), E, d), rfl, (by rw [(show sp_take x n T0 k G0 = ((-1 : Int32), (n, T0, k, G0)) from (by unfold sp_take; (repeat' split) <;> first | rfl | (exfalso; omega)))]; exact ⟨rfl, tE_mk hT hG hn hk⟩), by rw [ht]; exact hP, va_K.moved hW.alike hK, hD⟩, hS.F ht⟩) hS.2.2 dX1_take_13
  · skip
    have h1 := (not_congr (tl_lt (show x.toInt = x.toInt from rfl) (show (0 : Int32).toInt = (0 : Int) from Int32.toInt_zero))).mp h1
    refine lv_iload_n hx hb dX1_take_4 rfl (lv_at hl 1 rfl) ?_
    refine lv_aload_n hx hb dX1_take_5 rfl (lv_at hl 0 rfl) ?_
    refine va_get (D := (dC, dI)) (ci := 1) (v := .int (nI n)) (C := RX1) (T := TX1) (N := 6) hx hb hts hinX1 hown hK hP 0 rfl rfl 3 (by decide) (hts _ (List.mem_cons_of_mem _ k248)) (fun _ h9 => h9) rfl dX1_take_6 ?_
    refine lv_icmp_lt (tgt := 14) hx hb dX1_take_9 rfl (fun h9 => ?_) (fun h9 => ?_)
    · skip
      have h9 := (tl_lt (show x.toInt = x.toInt from rfl) (show (nI n).toInt = ((n : Nat) : Int) from (nI_toInt (by omega)))).mp h9
      obtain ⟨a, lta, rfl⟩ := tl_of (x := x) (by omega)
      have ea : (nI a).toInt = ((a : Nat) : Int) := nI_toInt lta
      refine lv_aload_n hx hb dX1_take_14 rfl (lv_at hl 0 rfl) ?_
      refine va_get (D := (dC, dI)) (ci := 1) (v := .ref q0) (C := RX1) (T := TX1) (N := 6) hx hb hts hinX1 hown hK hP 0 rfl rfl 0 (by decide) (hts _ (List.mem_cons_of_mem _ k245)) (fun _ h9 => h9) rfl dX1_take_15 ?_
      refine lv_iload_n hx hb dX1_take_18 rfl (lv_at hl 1 rfl) ?_
      refine tl_iald (v := T0 a) hx hb hK hP 1 0 rfl rfl (by omega) (by decide) (hT _ (by omega)) dX1_take_19 ?_
      refine lv_istore_n (lv' := [(2, .int (T0 a)), (0, .ref h0), (1, .int (nI a))]) hx hb dX1_take_20 rfl hl (by decide) rfl (fun ls hl => ?_)
      refine lv_aload_n hx hb dX1_take_21 rfl (lv_at hl 1 rfl) ?_
      refine lv_iload_n hx hb dX1_take_22 rfl (lv_at hl 2 rfl) ?_
      refine lv_iload_n hx hb dX1_take_23 rfl (lv_at hl 2 rfl) ?_
      refine lv_iconst (v := nI 1) hx hb dX1_take_24 (by decide) ?_
      refine lv_iadd hx hb dX1_take_25 ?_
      refine tl_top (nI_add _ _) ?_
      have hPc := hP.sub (ws' := [(h0, .inr (1, [.ref q0, .ref q1, .ref q2, .int (nI n), .int (nI k), .int d])), (q0, .inl (cA, 3000, .inl T)), (q1, .inl (cB, 40, .inl G)), (q2, .inl (cC, 20, .inl E))]) [0, 1, 2, 3] rfl
      have hDc := hD.sub (ws' := [(h0, .inr (1, [.ref q0, .ref q1, .ref q2, .int (nI n), .int (nI k), .int d])), (q0, .inl (cA, 3000, .inl T)), (q1, .inl (cB, 40, .inl G)), (q2, .inl (cC, 20, .inl E))]) [0, 1, 2, 3] (by decide) rfl
      have hKc := hK
      have hFc := va_free (wc := [(h0, .inr (1, [.ref q0, .ref q1, .ref q2, .int (nI n), .int (nI k), .int d])), (q0, .inl (cA, 3000, .inl T)), (q1, .inl (cB, 40, .inl G)), (q2, .inl (cC, 20, .inl E))]) hD hS hA [0, 1, 2, 3] rfl
      refine va_callv (va_runV (As := [.int (nI a), .int (nI (a + 1))]) (rest := []) ⟨hx, hb, hml, hown, hts⟩ (c_M_close l dC dI h0 q0 q1 q2 s.heap.size n k cA cB cC T G T0 G0 hT hG (by omega) hk E d a (a + 1) (by omega) (by omega)) (cwV 2 hts (gV_ (fun w h => List.mem_cons_of_mem _ h) k327 k329 k18 k22 k330) rfl rfl rfl (by decide +kernel) ⟨Nat.le_of_ble_eq_true rfl, Nat.le_of_ble_eq_true rfl⟩) ⟨fun a U g mk q => by obtain ⟨q0, q1, qP, qK, qD⟩ := q; exact ⟨q0, q1, qP, va_K.moved (u := U) (U := U.calling g mk a) (Vm.Alike.refl U.vm) qK, qD⟩, va_recv hKc hPc (ci := 1) (q0 := 0) rfl rfl, fun U hU hW => ⟨rfl, by rw [hU], by rw [hU]; exact hPc, va_K.moved hW.alike hKc, hDc.weaken (fun _ _ _ _ => trivial)⟩⟩ rfl rfl hl.1 rfl (lv_room (Nat.le_of_ble_eq_true rfl)) dX1_take_26 ⟨Nat.le_of_ble_eq_true rfl, Nat.le_of_ble_eq_true rfl⟩) hS (fun q _ h => hFc q h) hFc (fun u26 t H locs ht hvm w26 hB hz1 hk1 hS => ?_)
      try dsimp only at w26
      obtain ⟨F2, rfl, hO1, hO2⟩ := w26
      have hF9 := pm_cut (w := G0) hT (show a ≤ a + 1 by omega) (show a + 1 ≤ n by omega) hO1 hO2
      obtain ⟨hP1, hK1, hD1⟩ := hB
      rw [ht] at hP1
      obtain ⟨hP, hD⟩ := va_join (wr := []) (w1 := [(h0, .inr (1, [.ref q0, .ref q1, .ref q2, .int (nI (n - ((a + 1) - a))), .int (nI k), .int d])), (q0, .inl (cA, 3000, .inl F2)), (q1, .inl (cB, 40, .inl G)), (q2, .inl (cC, 20, .inl E))]) hP hD [0, 1, 2, 3] [] rfl rfl (by decide) (by decide) hk1 hFc hP1 hD1
      have hP : va_P (dC, dI) vwCl [(h0, .inr (1, [.ref q0, .ref q1, .ref q2, .int (nI (n - ((a + 1) - a))), .int (nI k), .int d])), (q0, .inl (cA, 3000, .inl F2)), (q1, .inl (cB, 40, .inl G)), (q2, .inl (cC, 20, .inl E))] H := hP
      have hD : va_D A [(h0, .inr (1, [.ref q0, .ref q1, .ref q2, .int (nI (n - ((a + 1) - a))), .int (nI k), .int d])), (q0, .inl (cA, 3000, .inl F2)), (q1, .inl (cB, 40, .inl G)), (q2, .inl (cC, 20, .inl E))] := hD
      refine lv_iload_n hx hb dX1_take_29 rfl (lv_at hl 0 rfl) ?_
      subst hQ
      exact W.iret (v := T0 a) hx hb hr (fun t ht hW => ⟨⟨T0 a, ((n - ((a + 1) - a), F2, k, G), E, d), rfl, (by rw [(show sp_take (nI a) n T0 k G0 = (T0 a, (n - 1, tl_rep T0 a (a + 1) G0 0, k, G0)) from (by unfold sp_take; (try simp only [nI_clamp lta]); (repeat' split) <;> first | rfl | (exfalso; omega)))]; exact ⟨rfl, (by rw [show n - 1 = n - (a + 1 - a) by omega]; exact tE_mk hF9 hG (by omega) hk)⟩), by rw [ht]; exact hP, va_K.moved hW.alike hK, hD⟩, hS.F ht⟩) hS.2.2 dX1_take_30
    · skip
      have h9 := (not_congr (tl_lt (show x.toInt = x.toInt from rfl) (show (nI n).toInt = ((n : Nat) : Int) from (nI_toInt (by omega))))).mp h9
      refine lv_iconst (v := (-1 : Int32)) hx hb dX1_take_12 (by decide) ?_
      subst hQ
      exact W.iret (v := (-1 : Int32)) hx hb hr (fun t ht hW => ⟨⟨(-1 : Int32), ((n, T, k, G), E, d), rfl, (by rw [(show sp_take x n T0 k G0 = ((-1 : Int32), (n, T0, k, G0)) from (by unfold sp_take; (repeat' split) <;> first | rfl | (exfalso; omega)))]; exact ⟨rfl, tE_mk hT hG hn hk⟩), by rw [ht]; exact hP, va_K.moved hW.alike hK, hD⟩, hS.F ht⟩) hS.2.2 dX1_take_13
set_option maxHeartbeats 4000000 in
set_option maxRecDepth 100000 in
theorem c_M_set (l : Launch) (dC : Nat → ClassId) (dI : Nat → Nat → Nat) (h0 q0 q1 q2 sz n k : Nat) (cA cB cC : ClassId) (T G T0 G0 : Nat → Int32) (hT : ∀ j, j < n → T j = T0 j) (hG : ∀ j, j < k → G j = G0 j) (hn : n ≤ 3000) (hk : k ≤ 40) (E : Nat → Int32) (d : Int32) (x y : Int32) : Met l yX1_set wsX1_set ({ frames := 1, cells := 0, slots := 0, locals := 21 } : Room) (va_Pc [.ref h0, .int x, .int y] (fun U => U.heap.size = sz ∧ va_P (dC, dI) vwCl [(h0, .inr (1, [.ref q0, .ref q1, .ref q2, .int (nI n), .int (nI k), .int d])), (q0, .inl (cA, 3000, .inl T)), (q1, .inl (cB, 40, .inl G)), (q2, .inl (cC, 20, .inl E))] U.heap ∧ va_K (dC, dI) vwCl [(cA, .int), (cB, .int), (cC, .int)] U ∧ va_D (fun _ => True) [(h0, .inr (1, [.ref q0, .ref q1, .ref q2, .int (nI n), .int (nI k), .int d])), (q0, .inl (cA, 3000, .inl T)), (q1, .inl (cB, 40, .inl G)), (q2, .inl (cC, 20, .inl E))])) (va_Qi (fun (r : Int32) (u : tM) => r = (sp_set x y n T0 k G0).1 ∧ tE u.1 (sp_set x y n T0 k G0).2) (at_M dC dI (va_A [(h0, .inr (1, [.ref q0, .ref q1, .ref q2, .int (nI n), .int (nI k), .int d])), (q0, .inl (cA, 3000, .inl T)), (q1, .inl (cB, 40, .inl G)), (q2, .inl (cC, 20, .inl E))] sz) h0 q0 q1 q2 cA cB cC) (va_A [(h0, .inr (1, [.ref q0, .ref q1, .ref q2, .int (nI n), .int (nI k), .int d])), (q0, .inl (cA, 3000, .inl T)), (q1, .inl (cB, 40, .inl G)), (q2, .inl (cC, 20, .inl E))] sz)) 0 0 (va_A [(h0, .inr (1, [.ref q0, .ref q1, .ref q2, .int (nI n), .int (nI k), .int d])), (q0, .inl (cA, 3000, .inl T)), (q1, .inl (cB, 40, .inl G)), (q2, .inl (cC, 20, .inl E))] sz) := by
  refine Met.ofW (cc := cX1_set) (maxL := 4) (ret := (some .int)) (by decide) rfl ?_
  intro p e s m args below meth c s₁ B hml hv
  obtain ⟨rfl, hsz, hP, hK, hD0⟩ := hv
  have hx := B.exec
  have hb := B.bytes
  have hr := B.returns
  have hts := atoms_spec (ws := wsX1_set) B.pre
  have hown : s.vm.findClass RX1 = some m.cls := findClass_of_methodNamed B.named
  have hlocks := B.notSynchronized
  subst hsz
  have hD := hD0.self (sz := s.heap.size)
  generalize hAe : va_A [(h0, .inr (1, [.ref q0, .ref q1, .ref q2, .int (nI n), .int (nI k), .int d])), (q0, .inl (cA, 3000, .inl T)), (q1, .inl (cB, 40, .inl G)), (q2, .inl (cC, 20, .inl E))] s.heap.size = A at hD ⊢
  have hA : ∀ q : Nat, s.heap.size ≤ q → A q := fun q h => by rw [← hAe]; exact Or.inr h
  have hS : va_S A s.heap s.heap [] := va_S.rf
  have hP : va_P (dC, dI) vwCl [(h0, .inr (1, [.ref q0, .ref q1, .ref q2, .int (nI n), .int (nI k), .int d])), (q0, .inl (cA, 3000, .inl T)), (q1, .inl (cB, 40, .inl G)), (q2, .inl (cC, 20, .inl E))] s.heap := hP
  have hinX1 : ∀ w ∈ u_ws RX1 TX1 6, w ∈ wsX1_set := fun w h => List.mem_cons_of_mem _ (inX1 w h)
  have hl := lv_entry ([.ref h0, .int x, .int y]) (n := 4) (Nat.le_of_ble_eq_true rfl)
  rw [lg_entry_eq]
  generalize (lg_sl ([.ref h0, .int x, .int y]) ++ List.replicate (4 - (lg_sl ([.ref h0, .int x, .int y])).length) Slot.unset).toArray = ls at hl ⊢
  have hl : lv_has ls 4 [(0, .ref h0), (1, .int x), (2, .int y)] := hl
  refine tl_q (fun Q hQ => ?_)
  refine lv_iload_n hx hb dX1_set_0 rfl (lv_at hl 1 rfl) ?_
  refine lv_if_lt (tgt := 20) hx hb dX1_set_1 rfl (fun h1 => ?_) (fun h1 => ?_)
  · skip
    have h1 := (tl_lt (show x.toInt = x.toInt from rfl) (show (0 : Int32).toInt = (0 : Int) from Int32.toInt_zero)).mp h1
    refine lv_iconst (v := (-1 : Int32)) hx hb dX1_set_20 (by decide) ?_
    subst hQ
    exact W.iret (v := (-1 : Int32)) hx hb hr (fun t ht hW => ⟨⟨(-1 : Int32), ((n, T, k, G), E, d), rfl, (by rw [(show sp_set x y n T0 k G0 = ((-1 : Int32), (n, T0, k, G0)) from (by unfold sp_set; (repeat' split) <;> first | rfl | (exfalso; omega)))]; exact ⟨rfl, tE_mk hT hG hn hk⟩), by rw [ht]; exact hP, va_K.moved hW.alike hK, hD⟩, hS.F ht⟩) hS.2.2 dX1_set_21
  · skip
    have h1 := (not_congr (tl_lt (show x.toInt = x.toInt from rfl) (show (0 : Int32).toInt = (0 : Int) from Int32.toInt_zero))).mp h1
    refine lv_iload_n hx hb dX1_set_4 rfl (lv_at hl 1 rfl) ?_
    refine lv_aload_n hx hb dX1_set_5 rfl (lv_at hl 0 rfl) ?_
    refine va_get (D := (dC, dI)) (ci := 1) (v := .int (nI n)) (C := RX1) (T := TX1) (N := 6) hx hb hts hinX1 hown hK hP 0 rfl rfl 3 (by decide) (hts _ (List.mem_cons_of_mem _ k248)) (fun _ h9 => h9) rfl dX1_set_6 ?_
    refine lv_icmp_ge (tgt := 20) hx hb dX1_set_9 rfl (fun h9 => ?_) (fun h9 => ?_)
    · skip
      have h9 := (tl_le (show (nI n).toInt = ((n : Nat) : Int) from (nI_toInt (by omega))) (show x.toInt = x.toInt from rfl)).mp h9
      refine lv_iconst (v := (-1 : Int32)) hx hb dX1_set_20 (by decide) ?_
      subst hQ
      exact W.iret (v := (-1 : Int32)) hx hb hr (fun t ht hW => ⟨⟨(-1 : Int32), ((n, T, k, G), E, d), rfl, (by rw [(show sp_set x y n T0 k G0 = ((-1 : Int32), (n, T0, k, G0)) from (by unfold sp_set; (repeat' split) <;> first | rfl | (exfalso; omega)))]; exact ⟨rfl, tE_mk hT hG hn hk⟩), by rw [ht]; exact hP, va_K.moved hW.alike hK, hD⟩, hS.F ht⟩) hS.2.2 dX1_set_21
    · skip
      have h9 := (not_congr (tl_le (show (nI n).toInt = ((n : Nat) : Int) from (nI_toInt (by omega))) (show x.toInt = x.toInt from rfl))).mp h9
      refine lv_iload_n hx hb dX1_set_12 rfl (lv_at hl 2 rfl) ?_
      refine lv_i2l hx hb dX1_set_13 rfl ?_
      have ea14_0 : y.toInt64.toInt = y.toInt := ((Int32.toInt_toInt64 _).trans rfl)
      refine vp_callSi ((va_runS (As := [.long y.toInt64]) (rest := []) ⟨hx, hb, hml, hown, hts⟩ (c_M_isSign l y.toInt64) (va_cwS 1 hts (gS_ (fun w h => List.mem_cons_of_mem _ h) k268 k269 k22 k270) rfl rfl rfl (by decide +kernel) ⟨Nat.le_of_ble_eq_true rfl, Nat.le_of_ble_eq_true rfl⟩) ⟨fun a U g mk q => q, fun U hU hW => ⟨rfl, trivial⟩⟩ rfl rfl hl.1 rfl (lv_room (Nat.le_of_ble_eq_true rfl)) dX1_set_14 ⟨Nat.le_of_ble_eq_true rfl, Nat.le_of_ble_eq_true rfl⟩).run) (fun r14 w14 => ?_)
      try dsimp only at w14
      refine lv_if_ne (tgt := 22) hx hb dX1_set_17 rfl (fun h17 => ?_) (fun h17 => ?_)
      · skip
        have h17 := (tl_b1 w14).mp h17
        obtain ⟨a, lta, rfl⟩ := tl_of (x := x) (by omega)
        have ea : (nI a).toInt = ((a : Nat) : Int) := nI_toInt lta
        refine lv_aload_n hx hb dX1_set_22 rfl (lv_at hl 0 rfl) ?_
        refine va_get (D := (dC, dI)) (ci := 1) (v := .ref q0) (C := RX1) (T := TX1) (N := 6) hx hb hts hinX1 hown hK hP 0 rfl rfl 0 (by decide) (hts _ (List.mem_cons_of_mem _ k245)) (fun _ h9 => h9) rfl dX1_set_23 ?_
        refine lv_iload_n hx hb dX1_set_26 rfl (lv_at hl 1 rfl) ?_
        refine tl_iald (v := T0 a) hx hb hK hP 1 0 rfl rfl (by omega) (by decide) (hT _ (by omega)) dX1_set_27 ?_
        refine lv_istore_n (lv' := [(3, .int (T0 a)), (0, .ref h0), (1, .int (nI a)), (2, .int y)]) hx hb dX1_set_28 rfl hl (by decide) rfl (fun ls hl => ?_)
        refine lv_aload_n hx hb dX1_set_29 rfl (lv_at hl 1 rfl) ?_
        refine va_get (D := (dC, dI)) (ci := 1) (v := .ref q0) (C := RX1) (T := TX1) (N := 6) hx hb hts hinX1 hown hK hP 0 rfl rfl 0 (by decide) (hts _ (List.mem_cons_of_mem _ k245)) (fun _ h9 => h9) rfl dX1_set_30 ?_
        refine lv_iload_n hx hb dX1_set_33 rfl (lv_at hl 2 rfl) ?_
        refine lv_iload_n hx hb dX1_set_34 rfl (lv_at hl 3 rfl) ?_
        refine tl_iast hx hb hK hP hD hS 1 0 rfl rfl (by omega) (by decide) dX1_set_35 (fun H locs hP hD hS => ?_)
        have hP : va_P (dC, dI) vwCl [(h0, .inr (1, [.ref q0, .ref q1, .ref q2, .int (nI n), .int (nI k), .int d])), (q0, .inl (cA, 3000, .inl (upd T a y))), (q1, .inl (cB, 40, .inl G)), (q2, .inl (cC, 20, .inl E))] H := hP
        have hD : va_D A [(h0, .inr (1, [.ref q0, .ref q1, .ref q2, .int (nI n), .int (nI k), .int d])), (q0, .inl (cA, 3000, .inl (upd T a y))), (q1, .inl (cB, 40, .inl G)), (q2, .inl (cC, 20, .inl E))] := hD
        refine lv_iload_n hx hb dX1_set_36 rfl (lv_at hl 0 rfl) ?_
        subst hQ
        exact W.iret (v := T0 a) hx hb hr (fun t ht hW => ⟨⟨T0 a, ((n, upd T a y, k, G), E, d), rfl, (by rw [(show sp_set (nI a) y n T0 k G0 = (T0 a, (n, upd T0 a y, k, G0)) from (by unfold sp_set; (try simp only [nI_clamp lta]); (repeat' split) <;> first | rfl | (exfalso; omega)))]; exact ⟨rfl, tE_mk (pu_ups hT) hG hn hk⟩), by rw [ht]; exact hP, va_K.moved hW.alike hK, hD⟩, hS.F ht⟩) hS.2.2 dX1_set_37
      · skip
        have h17 := (tl_b0 w14).mp h17
        refine lv_iconst (v := (-1 : Int32)) hx hb dX1_set_20 (by decide) ?_
        subst hQ
        exact W.iret (v := (-1 : Int32)) hx hb hr (fun t ht hW => ⟨⟨(-1 : Int32), ((n, T, k, G), E, d), rfl, (by rw [(show sp_set x y n T0 k G0 = ((-1 : Int32), (n, T0, k, G0)) from (by unfold sp_set; (repeat' split) <;> first | rfl | (exfalso; omega)))]; exact ⟨rfl, tE_mk hT hG hn hk⟩), by rw [ht]; exact hP, va_K.moved hW.alike hK, hD⟩, hS.F ht⟩) hS.2.2 dX1_set_21
set_option maxHeartbeats 4000000 in
set_option maxRecDepth 100000 in
theorem c_M_turn (l : Launch) (dC : Nat → ClassId) (dI : Nat → Nat → Nat) (h0 q0 q1 q2 sz n k : Nat) (cA cB cC : ClassId) (T G T0 G0 : Nat → Int32) (hT : ∀ j, j < n → T j = T0 j) (hG : ∀ j, j < k → G j = G0 j) (hn : n ≤ 3000) (hk : k ≤ 40) (E : Nat → Int32) (d : Int32)  : Met l yX1_turn wsX1_turn ({ frames := 0, cells := 0, slots := 0, locals := 0 } : Room) (va_Pc [.ref h0] (fun U => U.heap.size = sz ∧ va_P (dC, dI) vwCl [(h0, .inr (1, [.ref q0, .ref q1, .ref q2, .int (nI n), .int (nI k), .int d])), (q0, .inl (cA, 3000, .inl T)), (q1, .inl (cB, 40, .inl G)), (q2, .inl (cC, 20, .inl E))] U.heap ∧ va_K (dC, dI) vwCl [(cA, .int), (cB, .int), (cC, .int)] U ∧ va_D (fun _ => True) [(h0, .inr (1, [.ref q0, .ref q1, .ref q2, .int (nI n), .int (nI k), .int d])), (q0, .inl (cA, 3000, .inl T)), (q1, .inl (cB, 40, .inl G)), (q2, .inl (cC, 20, .inl E))])) (va_Qi (fun (r : Int32) (u : tM) => r = (sp_turn n T0 k G0).1 ∧ tE u.1 (sp_turn n T0 k G0).2) (at_M dC dI (va_A [(h0, .inr (1, [.ref q0, .ref q1, .ref q2, .int (nI n), .int (nI k), .int d])), (q0, .inl (cA, 3000, .inl T)), (q1, .inl (cB, 40, .inl G)), (q2, .inl (cC, 20, .inl E))] sz) h0 q0 q1 q2 cA cB cC) (va_A [(h0, .inr (1, [.ref q0, .ref q1, .ref q2, .int (nI n), .int (nI k), .int d])), (q0, .inl (cA, 3000, .inl T)), (q1, .inl (cB, 40, .inl G)), (q2, .inl (cC, 20, .inl E))] sz)) 0 0 (va_A [(h0, .inr (1, [.ref q0, .ref q1, .ref q2, .int (nI n), .int (nI k), .int d])), (q0, .inl (cA, 3000, .inl T)), (q1, .inl (cB, 40, .inl G)), (q2, .inl (cC, 20, .inl E))] sz) := by
  refine Met.ofW (cc := cX1_turn) (maxL := 3) (ret := (some .int)) (by decide) rfl ?_
  intro p e s m args below meth c s₁ B hml hv
  obtain ⟨rfl, hsz, hP, hK, hD0⟩ := hv
  have hx := B.exec
  have hb := B.bytes
  have hr := B.returns
  have hts := atoms_spec (ws := wsX1_turn) B.pre
  have hown : s.vm.findClass RX1 = some m.cls := findClass_of_methodNamed B.named
  have hlocks := B.notSynchronized
  subst hsz
  have hD := hD0.self (sz := s.heap.size)
  generalize hAe : va_A [(h0, .inr (1, [.ref q0, .ref q1, .ref q2, .int (nI n), .int (nI k), .int d])), (q0, .inl (cA, 3000, .inl T)), (q1, .inl (cB, 40, .inl G)), (q2, .inl (cC, 20, .inl E))] s.heap.size = A at hD ⊢
  have hA : ∀ q : Nat, s.heap.size ≤ q → A q := fun q h => by rw [← hAe]; exact Or.inr h
  have hS : va_S A s.heap s.heap [] := va_S.rf
  have hP : va_P (dC, dI) vwCl [(h0, .inr (1, [.ref q0, .ref q1, .ref q2, .int (nI n), .int (nI k), .int d])), (q0, .inl (cA, 3000, .inl T)), (q1, .inl (cB, 40, .inl G)), (q2, .inl (cC, 20, .inl E))] s.heap := hP
  have hinX1 : ∀ w ∈ u_ws RX1 TX1 6, w ∈ wsX1_turn := fun w h => List.mem_cons_of_mem _ (inX1 w h)
  have hl := lv_entry ([.ref h0]) (n := 3) (Nat.le_of_ble_eq_true rfl)
  rw [lg_entry_eq]
  generalize (lg_sl ([.ref h0]) ++ List.replicate (3 - (lg_sl ([.ref h0])).length) Slot.unset).toArray = ls at hl ⊢
  have hl : lv_has ls 3 [(0, .ref h0)] := hl
  refine tl_q (fun Q hQ => ?_)
  refine lv_iconst (v := nI 0) hx hb dX1_turn_0 (by decide) ?_
  refine lv_istore_n (lv' := [(1, .int (nI 0)), (0, .ref h0)]) hx hb dX1_turn_1 rfl hl (by decide) rfl (fun ls hl => ?_)
  have LP2 : ∀ (fu : Nat) (j : Nat) (F : Nat → Int32) (H : Heap) (locs : List Loc) (ls : Array Slot), n / 2 - j < fu → j ≤ n / 2 → (∀ i, i < n → F i = if i < j ∨ n - 1 - j < i then T0 (n - 1 - i) else T0 i) → lv_has ls 3 [(0, .ref h0), (1, .int (nI j))] → va_P (dC, dI) vwCl [(h0, .inr (1, [.ref q0, .ref q1, .ref q2, .int (nI n), .int (nI k), .int d])), (q0, .inl (cA, 3000, .inl F)), (q1, .inl (cB, 40, .inl G)), (q2, .inl (cC, 20, .inl E))] H → va_D A [(h0, .inr (1, [.ref q0, .ref q1, .ref q2, .int (nI n), .int (nI k), .int d])), (q0, .inl (cA, 3000, .inl F)), (q1, .inl (cB, 40, .inl G)), (q2, .inl (cC, 20, .inl E))] → va_S A s.heap H locs → W p l e (headSpec wsX1_turn ({ frames := 0, cells := 0, slots := 0, locals := 0 } : Room)).room s m ([.ref h0] : List Value).toArray below meth c H locs 0 0 Q (F0 m 2 ls []) := by
    intro fu
    induction fu with
    | zero => intro j F H locs ls hfu; exact absurd hfu (Nat.not_lt_zero _)
    | succ fu ih =>
      intro j F H locs ls hfu hj hF hl hP hD hS
      refine lv_iload_n hx hb dX1_turn_2 rfl (lv_at hl 1 rfl) ?_
      refine lv_aload_n hx hb dX1_turn_3 rfl (lv_at hl 0 rfl) ?_
      refine va_get (D := (dC, dI)) (ci := 1) (v := .int (nI n)) (C := RX1) (T := TX1) (N := 6) hx hb hts hinX1 hown hK hP 0 rfl rfl 3 (by decide) (hts _ (List.mem_cons_of_mem _ k248)) (fun _ h9 => h9) rfl dX1_turn_4 ?_
      refine lv_iconst (v := nI 2) hx hb dX1_turn_7 (by decide) ?_
      refine lv_idiv hx hb dX1_turn_8 (by decide) ?_
      refine tl_top (pk_div (by omega) (by omega) (by omega)) ?_
      refine lv_icmp_ge (tgt := 58) hx hb dX1_turn_9 rfl (fun h9 => ?_) (fun h9 => ?_)
      · skip
        have h9 := (tl_le (show (nI (n / 2)).toInt = ((n / 2 : Nat) : Int) from (nI_toInt (by omega))) (show (nI j).toInt = ((j : Nat) : Int) from (nI_toInt (by omega)))).mp h9
        refine lv_aload_n hx hb dX1_turn_58 rfl (lv_at hl 0 rfl) ?_
        refine va_get (D := (dC, dI)) (ci := 1) (v := .int (nI n)) (C := RX1) (T := TX1) (N := 6) hx hb hts hinX1 hown hK hP 0 rfl rfl 3 (by decide) (hts _ (List.mem_cons_of_mem _ k248)) (fun _ h9 => h9) rfl dX1_turn_59 ?_
        subst hQ
        exact W.iret (v := nI n) hx hb hr (fun t ht hW => ⟨⟨nI n, ((n, F, k, G), E, d), rfl, ⟨rfl, tE_mk (pu_turn_end hj (by omega) hF) hG hn hk⟩, by rw [ht]; exact hP, va_K.moved hW.alike hK, hD⟩, hS.F ht⟩) hS.2.2 dX1_turn_62
      · skip
        have h9 := (not_congr (tl_le (show (nI (n / 2)).toInt = ((n / 2 : Nat) : Int) from (nI_toInt (by omega))) (show (nI j).toInt = ((j : Nat) : Int) from (nI_toInt (by omega))))).mp h9
        refine lv_aload_n hx hb dX1_turn_12 rfl (lv_at hl 0 rfl) ?_
        refine va_get (D := (dC, dI)) (ci := 1) (v := .ref q0) (C := RX1) (T := TX1) (N := 6) hx hb hts hinX1 hown hK hP 0 rfl rfl 0 (by decide) (hts _ (List.mem_cons_of_mem _ k245)) (fun _ h9 => h9) rfl dX1_turn_13 ?_
        refine lv_iload_n hx hb dX1_turn_16 rfl (lv_at hl 1 rfl) ?_
        refine tl_iald (v := T0 j) hx hb hK hP 1 0 rfl rfl (by omega) (by decide) (by rw [hF j (by omega), if_neg (by omega)]) dX1_turn_17 ?_
        refine lv_istore_n (lv' := [(2, .int (T0 j)), (0, .ref h0), (1, .int (nI j))]) hx hb dX1_turn_18 rfl hl (by decide) rfl (fun ls hl => ?_)
        refine lv_aload_n hx hb dX1_turn_19 rfl (lv_at hl 1 rfl) ?_
        refine va_get (D := (dC, dI)) (ci := 1) (v := .ref q0) (C := RX1) (T := TX1) (N := 6) hx hb hts hinX1 hown hK hP 0 rfl rfl 0 (by decide) (hts _ (List.mem_cons_of_mem _ k245)) (fun _ h9 => h9) rfl dX1_turn_20 ?_
        refine lv_iload_n hx hb dX1_turn_23 rfl (lv_at hl 2 rfl) ?_
        refine lv_aload_n hx hb dX1_turn_24 rfl (lv_at hl 1 rfl) ?_
        refine va_get (D := (dC, dI)) (ci := 1) (v := .ref q0) (C := RX1) (T := TX1) (N := 6) hx hb hts hinX1 hown hK hP 0 rfl rfl 0 (by decide) (hts _ (List.mem_cons_of_mem _ k245)) (fun _ h9 => h9) rfl dX1_turn_25 ?_
        refine lv_aload_n hx hb dX1_turn_28 rfl (lv_at hl 1 rfl) ?_
        refine va_get (D := (dC, dI)) (ci := 1) (v := .int (nI n)) (C := RX1) (T := TX1) (N := 6) hx hb hts hinX1 hown hK hP 0 rfl rfl 3 (by decide) (hts _ (List.mem_cons_of_mem _ k248)) (fun _ h9 => h9) rfl dX1_turn_29 ?_
        refine lv_iconst (v := nI 1) hx hb dX1_turn_32 (by decide) ?_
        refine lv_isub hx hb dX1_turn_33 ?_
        refine tl_top (pk_sub (by omega)) ?_
        refine lv_iload_n hx hb dX1_turn_34 rfl (lv_at hl 2 rfl) ?_
        refine lv_isub hx hb dX1_turn_35 ?_
        refine tl_top (pk_sub (by omega)) ?_
        refine tl_iald (v := T0 (n - 1 - j)) hx hb hK hP 1 0 rfl rfl (by omega) (by decide) (by rw [hF _ (by omega), if_neg (by omega)]) dX1_turn_36 ?_
        refine tl_iast hx hb hK hP hD hS 1 0 rfl rfl (by omega) (by decide) dX1_turn_37 (fun H locs hP hD hS => ?_)
        have hP : va_P (dC, dI) vwCl [(h0, .inr (1, [.ref q0, .ref q1, .ref q2, .int (nI n), .int (nI k), .int d])), (q0, .inl (cA, 3000, .inl (upd F j (T0 (n - 1 - j))))), (q1, .inl (cB, 40, .inl G)), (q2, .inl (cC, 20, .inl E))] H := hP
        have hD : va_D A [(h0, .inr (1, [.ref q0, .ref q1, .ref q2, .int (nI n), .int (nI k), .int d])), (q0, .inl (cA, 3000, .inl (upd F j (T0 (n - 1 - j))))), (q1, .inl (cB, 40, .inl G)), (q2, .inl (cC, 20, .inl E))] := hD
        refine lv_aload_n hx hb dX1_turn_38 rfl (lv_at hl 1 rfl) ?_
        refine va_get (D := (dC, dI)) (ci := 1) (v := .ref q0) (C := RX1) (T := TX1) (N := 6) hx hb hts hinX1 hown hK hP 0 rfl rfl 0 (by decide) (hts _ (List.mem_cons_of_mem _ k245)) (fun _ h9 => h9) rfl dX1_turn_39 ?_
        refine lv_aload_n hx hb dX1_turn_42 rfl (lv_at hl 1 rfl) ?_
        refine va_get (D := (dC, dI)) (ci := 1) (v := .int (nI n)) (C := RX1) (T := TX1) (N := 6) hx hb hts hinX1 hown hK hP 0 rfl rfl 3 (by decide) (hts _ (List.mem_cons_of_mem _ k248)) (fun _ h9 => h9) rfl dX1_turn_43 ?_
        refine lv_iconst (v := nI 1) hx hb dX1_turn_46 (by decide) ?_
        refine lv_isub hx hb dX1_turn_47 ?_
        refine tl_top (pk_sub (by omega)) ?_
        refine lv_iload_n hx hb dX1_turn_48 rfl (lv_at hl 2 rfl) ?_
        refine lv_isub hx hb dX1_turn_49 ?_
        refine tl_top (pk_sub (by omega)) ?_
        refine lv_iload_n hx hb dX1_turn_50 rfl (lv_at hl 0 rfl) ?_
        refine tl_iast hx hb hK hP hD hS 1 0 rfl rfl (by omega) (by decide) dX1_turn_51 (fun H locs hP hD hS => ?_)
        have hP : va_P (dC, dI) vwCl [(h0, .inr (1, [.ref q0, .ref q1, .ref q2, .int (nI n), .int (nI k), .int d])), (q0, .inl (cA, 3000, .inl (upd (upd F j (T0 (n - 1 - j))) (n - 1 - j) (T0 j)))), (q1, .inl (cB, 40, .inl G)), (q2, .inl (cC, 20, .inl E))] H := hP
        have hD : va_D A [(h0, .inr (1, [.ref q0, .ref q1, .ref q2, .int (nI n), .int (nI k), .int d])), (q0, .inl (cA, 3000, .inl (upd (upd F j (T0 (n - 1 - j))) (n - 1 - j) (T0 j)))), (q1, .inl (cB, 40, .inl G)), (q2, .inl (cC, 20, .inl E))] := hD
        refine lv_iinc (lv' := [(1, .int (nI (j + 1))), (2, .int (T0 j)), (0, .ref h0)]) (k := 2) (v := nI (j + 1)) hx hb dX1_turn_52 hl rfl (tl_inc1 _) (by decide) rfl (fun ls hl => ?_)
        refine lv_goto (tgt := 2) hx hb dX1_turn_55 rfl ?_
        exact ih (j + 1) (upd (upd F j (T0 (n - 1 - j))) (n - 1 - j) (T0 j)) _ _ ls (by omega) (by omega) (pu_turn (by omega) hF) (lv_sub hl [2, 0] rfl) hP hD hS
  exact LP2 _ 0 T _ _ ls (Nat.lt_succ_self _) (by omega) (pu_turn0 hT) (lv_sub hl [1, 0] rfl) hP hD hS
set_option maxHeartbeats 4000000 in
set_option maxRecDepth 100000 in
theorem c_M_length (l : Launch) (dC : Nat → ClassId) (dI : Nat → Nat → Nat) (h0 q0 q1 q2 sz n k : Nat) (cA cB cC : ClassId) (T G T0 G0 : Nat → Int32) (hT : ∀ j, j < n → T j = T0 j) (hG : ∀ j, j < k → G j = G0 j) (hn : n ≤ 3000) (hk : k ≤ 40) (E : Nat → Int32) (d : Int32) (x : Int32) : Met l yX1_length wsX1_length ({ frames := 0, cells := 0, slots := 0, locals := 0 } : Room) (va_Pc [.ref h0, .int x] (fun U => U.heap.size = sz ∧ va_P (dC, dI) vwCl [(h0, .inr (1, [.ref q0, .ref q1, .ref q2, .int (nI n), .int (nI k), .int d])), (q0, .inl (cA, 3000, .inl T)), (q1, .inl (cB, 40, .inl G)), (q2, .inl (cC, 20, .inl E))] U.heap ∧ va_K (dC, dI) vwCl [(cA, .int), (cB, .int), (cC, .int)] U ∧ va_D (fun _ => True) [(h0, .inr (1, [.ref q0, .ref q1, .ref q2, .int (nI n), .int (nI k), .int d])), (q0, .inl (cA, 3000, .inl T)), (q1, .inl (cB, 40, .inl G)), (q2, .inl (cC, 20, .inl E))])) (va_Qi (fun (r : Int32) (u : tM) => r = (sp_length x n T0 k G0).1 ∧ tE u.1 (sp_length x n T0 k G0).2) (at_M dC dI (va_A [(h0, .inr (1, [.ref q0, .ref q1, .ref q2, .int (nI n), .int (nI k), .int d])), (q0, .inl (cA, 3000, .inl T)), (q1, .inl (cB, 40, .inl G)), (q2, .inl (cC, 20, .inl E))] sz) h0 q0 q1 q2 cA cB cC) (va_A [(h0, .inr (1, [.ref q0, .ref q1, .ref q2, .int (nI n), .int (nI k), .int d])), (q0, .inl (cA, 3000, .inl T)), (q1, .inl (cB, 40, .inl G)), (q2, .inl (cC, 20, .inl E))] sz)) 0 0 (va_A [(h0, .inr (1, [.ref q0, .ref q1, .ref q2, .int (nI n), .int (nI k), .int d])), (q0, .inl (cA, 3000, .inl T)), (q1, .inl (cB, 40, .inl G)), (q2, .inl (cC, 20, .inl E))] sz) := by
  refine Met.ofW (cc := cX1_length) (maxL := 3) (ret := (some .int)) (by decide) rfl ?_
  intro p e s m args below meth c s₁ B hml hv
  obtain ⟨rfl, hsz, hP, hK, hD0⟩ := hv
  have hx := B.exec
  have hb := B.bytes
  have hr := B.returns
  have hts := atoms_spec (ws := wsX1_length) B.pre
  have hown : s.vm.findClass RX1 = some m.cls := findClass_of_methodNamed B.named
  have hlocks := B.notSynchronized
  subst hsz
  have hD := hD0.self (sz := s.heap.size)
  generalize hAe : va_A [(h0, .inr (1, [.ref q0, .ref q1, .ref q2, .int (nI n), .int (nI k), .int d])), (q0, .inl (cA, 3000, .inl T)), (q1, .inl (cB, 40, .inl G)), (q2, .inl (cC, 20, .inl E))] s.heap.size = A at hD ⊢
  have hA : ∀ q : Nat, s.heap.size ≤ q → A q := fun q h => by rw [← hAe]; exact Or.inr h
  have hS : va_S A s.heap s.heap [] := va_S.rf
  have hP : va_P (dC, dI) vwCl [(h0, .inr (1, [.ref q0, .ref q1, .ref q2, .int (nI n), .int (nI k), .int d])), (q0, .inl (cA, 3000, .inl T)), (q1, .inl (cB, 40, .inl G)), (q2, .inl (cC, 20, .inl E))] s.heap := hP
  have hinX1 : ∀ w ∈ u_ws RX1 TX1 6, w ∈ wsX1_length := fun w h => List.mem_cons_of_mem _ (inX1 w h)
  have hl := lv_entry ([.ref h0, .int x]) (n := 3) (Nat.le_of_ble_eq_true rfl)
  rw [lg_entry_eq]
  generalize (lg_sl ([.ref h0, .int x]) ++ List.replicate (3 - (lg_sl ([.ref h0, .int x])).length) Slot.unset).toArray = ls at hl ⊢
  have hl : lv_has ls 3 [(0, .ref h0), (1, .int x)] := hl
  refine tl_q (fun Q hQ => ?_)
  refine lv_iload_n hx hb dX1_length_0 rfl (lv_at hl 1 rfl) ?_
  refine lv_if_ge (tgt := 6) hx hb dX1_length_1 rfl (fun h1 => ?_) (fun h1 => ?_)
  · skip
    have h1 := (tl_le (show (0 : Int32).toInt = (0 : Int) from Int32.toInt_zero) (show x.toInt = x.toInt from rfl)).mp h1
    refine lv_iload_n hx hb dX1_length_6 rfl (lv_at hl 1 rfl) ?_
    refine lv_sipush (v := nI 3000) hx hb dX1_length_7 (by decide) ?_
    refine lv_icmp_le (tgt := 16) hx hb dX1_length_10 rfl (fun h10 => ?_) (fun h10 => ?_)
    · skip
      have h10 := (tl_le (show x.toInt = x.toInt from rfl) (show (nI 3000).toInt = (3000 : Int) from (by decide))).mp h10
      obtain ⟨a, lta, rfl⟩ := tl_of (x := x) (by omega)
      have ea : (nI a).toInt = ((a : Nat) : Int) := nI_toInt lta
      refine lv_aload_n hx hb dX1_length_16 rfl (lv_at hl 0 rfl) ?_
      refine va_get (D := (dC, dI)) (ci := 1) (v := .int (nI n)) (C := RX1) (T := TX1) (N := 6) hx hb hts hinX1 hown hK hP 0 rfl rfl 3 (by decide) (hts _ (List.mem_cons_of_mem _ k248)) (fun _ h9 => h9) rfl dX1_length_17 ?_
      refine lv_istore_n (lv' := [(2, .int (nI n)), (0, .ref h0), (1, .int (nI a))]) hx hb dX1_length_20 rfl hl (by decide) rfl (fun ls hl => ?_)
      have LP21 : ∀ (fu : Nat) (j : Nat) (F : Nat → Int32) (H : Heap) (locs : List Loc) (ls : Array Slot), a - j < fu → n ≤ j → j ≤ a ∨ j = n → (∀ i, i < j → F i = if i < n then T0 i else 0) → lv_has ls 3 [(0, .ref h0), (1, .int (nI a)), (2, .int (nI j))] → va_P (dC, dI) vwCl [(h0, .inr (1, [.ref q0, .ref q1, .ref q2, .int (nI n), .int (nI k), .int d])), (q0, .inl (cA, 3000, .inl F)), (q1, .inl (cB, 40, .inl G)), (q2, .inl (cC, 20, .inl E))] H → va_D A [(h0, .inr (1, [.ref q0, .ref q1, .ref q2, .int (nI n), .int (nI k), .int d])), (q0, .inl (cA, 3000, .inl F)), (q1, .inl (cB, 40, .inl G)), (q2, .inl (cC, 20, .inl E))] → va_S A s.heap H locs → W p l e (headSpec wsX1_length ({ frames := 0, cells := 0, slots := 0, locals := 0 } : Room)).room s m ([.ref h0, .int (nI a)] : List Value).toArray below meth c H locs 0 0 Q (F0 m 21 ls []) := by
        intro fu
        induction fu with
        | zero => intro j F H locs ls hfu; exact absurd hfu (Nat.not_lt_zero _)
        | succ fu ih =>
          intro j F H locs ls hfu hj hj2 hF hl hP hD hS
          refine lv_iload_n hx hb dX1_length_21 rfl (lv_at hl 2 rfl) ?_
          refine lv_iload_n hx hb dX1_length_22 rfl (lv_at hl 1 rfl) ?_
          refine lv_icmp_ge (tgt := 39) hx hb dX1_length_23 rfl (fun h23 => ?_) (fun h23 => ?_)
          · skip
            have h23 := (tl_le (show (nI a).toInt = ((a : Nat) : Int) from (nI_toInt (by omega))) (show (nI j).toInt = ((j : Nat) : Int) from (nI_toInt (by omega)))).mp h23
            refine lv_aload_n hx hb dX1_length_39 rfl (lv_at hl 0 rfl) ?_
            refine lv_iload_n hx hb dX1_length_40 rfl (lv_at hl 1 rfl) ?_
            refine va_put (D := (dC, dI)) (ci := 1) (v := .int (nI a)) (ty := .int) (C := RX1) (T := TX1) (N := 6) hx hb hts hinX1 tyX1 tyX1_ok nmX1 hown hK hP hD hS 0 rfl rfl 3 (by decide) (hts _ (List.mem_cons_of_mem _ k248)) (fun _ h9 => h9) rfl (by decide +kernel) rfl rfl (Nat.le_of_ble_eq_true rfl) dX1_length_41 (fun H locs hP hD hS => ?_)
            have hP : va_P (dC, dI) vwCl [(h0, .inr (1, [.ref q0, .ref q1, .ref q2, .int (nI a), .int (nI k), .int d])), (q0, .inl (cA, 3000, .inl F)), (q1, .inl (cB, 40, .inl G)), (q2, .inl (cC, 20, .inl E))] H := hP
            have hD : va_D A [(h0, .inr (1, [.ref q0, .ref q1, .ref q2, .int (nI a), .int (nI k), .int d])), (q0, .inl (cA, 3000, .inl F)), (q1, .inl (cB, 40, .inl G)), (q2, .inl (cC, 20, .inl E))] := hD
            refine lv_aload_n hx hb dX1_length_44 rfl (lv_at hl 0 rfl) ?_
            refine va_get (D := (dC, dI)) (ci := 1) (v := .int (nI a)) (C := RX1) (T := TX1) (N := 6) hx hb hts hinX1 hown hK hP 0 rfl rfl 3 (by decide) (hts _ (List.mem_cons_of_mem _ k248)) (fun _ h9 => h9) rfl dX1_length_45 ?_
            subst hQ
            exact W.iret (v := nI a) hx hb hr (fun t ht hW => ⟨⟨nI a, ((a, F, k, G), E, d), rfl, (by rw [(show sp_length (nI a) n T0 k G0 = (nI a, (a, fun j => if j < n then T0 j else 0, k, G0)) from (by unfold sp_length; (try simp only [nI_clamp lta]); (repeat' split) <;> first | rfl | (exfalso; omega)))]; exact ⟨rfl, tE_mk (fun i hi => hF i (by omega)) hG (by omega) hk⟩), by rw [ht]; exact hP, va_K.moved hW.alike hK, hD⟩, hS.F ht⟩) hS.2.2 dX1_length_48
          · skip
            have h23 := (not_congr (tl_le (show (nI a).toInt = ((a : Nat) : Int) from (nI_toInt (by omega))) (show (nI j).toInt = ((j : Nat) : Int) from (nI_toInt (by omega))))).mp h23
            refine lv_aload_n hx hb dX1_length_26 rfl (lv_at hl 0 rfl) ?_
            refine va_get (D := (dC, dI)) (ci := 1) (v := .ref q0) (C := RX1) (T := TX1) (N := 6) hx hb hts hinX1 hown hK hP 0 rfl rfl 0 (by decide) (hts _ (List.mem_cons_of_mem _ k245)) (fun _ h9 => h9) rfl dX1_length_27 ?_
            refine lv_iload_n hx hb dX1_length_30 rfl (lv_at hl 2 rfl) ?_
            refine lv_iconst (v := nI 0) hx hb dX1_length_31 (by decide) ?_
            refine tl_iast hx hb hK hP hD hS 1 0 rfl rfl (by omega) (by decide) dX1_length_32 (fun H locs hP hD hS => ?_)
            have hP : va_P (dC, dI) vwCl [(h0, .inr (1, [.ref q0, .ref q1, .ref q2, .int (nI n), .int (nI k), .int d])), (q0, .inl (cA, 3000, .inl (upd F j (nI 0)))), (q1, .inl (cB, 40, .inl G)), (q2, .inl (cC, 20, .inl E))] H := hP
            have hD : va_D A [(h0, .inr (1, [.ref q0, .ref q1, .ref q2, .int (nI n), .int (nI k), .int d])), (q0, .inl (cA, 3000, .inl (upd F j (nI 0)))), (q1, .inl (cB, 40, .inl G)), (q2, .inl (cC, 20, .inl E))] := hD
            refine lv_iinc (lv' := [(2, .int (nI (j + 1))), (0, .ref h0), (1, .int (nI a))]) (k := 2) (v := nI (j + 1)) hx hb dX1_length_33 hl rfl (tl_inc1 _) (by decide) rfl (fun ls hl => ?_)
            refine lv_goto (tgt := 21) hx hb dX1_length_36 rfl ?_
            exact ih (j + 1) (upd F j (nI 0)) _ _ ls (by omega) (by omega) (by omega) (pu_len hj hF) (lv_sub hl [1, 2, 0] rfl) hP hD hS
      exact LP21 _ n T _ _ ls (Nat.lt_succ_self _) (by omega) (by omega) (fun i hi => by rw [if_pos hi]; exact hT i hi) (lv_sub hl [1, 2, 0] rfl) hP hD hS
    · skip
      have h10 := (not_congr (tl_le (show x.toInt = x.toInt from rfl) (show (nI 3000).toInt = (3000 : Int) from (by decide)))).mp h10
      refine lv_bipush (v := (-3 : Int32)) hx hb dX1_length_13 (by decide) ?_
      subst hQ
      exact W.iret (v := (-3 : Int32)) hx hb hr (fun t ht hW => ⟨⟨(-3 : Int32), ((n, T, k, G), E, d), rfl, (by rw [(show sp_length x n T0 k G0 = ((-3 : Int32), (n, T0, k, G0)) from (by unfold sp_length; (repeat' split) <;> first | rfl | (exfalso; omega)))]; exact ⟨rfl, tE_mk hT hG hn hk⟩), by rw [ht]; exact hP, va_K.moved hW.alike hK, hD⟩, hS.F ht⟩) hS.2.2 dX1_length_15
  · skip
    have h1 := (not_congr (tl_le (show (0 : Int32).toInt = (0 : Int) from Int32.toInt_zero) (show x.toInt = x.toInt from rfl))).mp h1
    refine lv_iconst (v := (-1 : Int32)) hx hb dX1_length_4 (by decide) ?_
    subst hQ
    exact W.iret (v := (-1 : Int32)) hx hb hr (fun t ht hW => ⟨⟨(-1 : Int32), ((n, T, k, G), E, d), rfl, (by rw [(show sp_length x n T0 k G0 = ((-1 : Int32), (n, T0, k, G0)) from (by unfold sp_length; (repeat' split) <;> first | rfl | (exfalso; omega)))]; exact ⟨rfl, tE_mk hT hG hn hk⟩), by rw [ht]; exact hP, va_K.moved hW.alike hK, hD⟩, hS.F ht⟩) hS.2.2 dX1_length_5
