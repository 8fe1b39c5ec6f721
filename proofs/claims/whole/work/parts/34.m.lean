set_option maxHeartbeats 4000000 in
set_option maxRecDepth 100000 in
theorem c_M_insert (l : Launch) (dC : Nat → ClassId) (dI : Nat → Nat → Nat) (h0 q0 q1 q2 sz n k : Nat) (cA cB cC : ClassId) (T G T0 G0 : Nat → Int32) (hT : ∀ j, j < n → T j = T0 j) (hG : ∀ j, j < k → G j = G0 j) (hn : n ≤ 3000) (hk : k ≤ 40) (E : Nat → Int32) (d : Int32) (x fl : Int32) (y : Int64) : Met l yX1_insert wsX1_insert ({ frames := 2, cells := 0, slots := 0, locals := 45 } : Room) (va_Pc [.ref h0, .int x, .int fl, .long y] (fun U => U.heap.size = sz ∧ va_P (dC, dI) vwCl [(h0, .inr (1, [.ref q0, .ref q1, .ref q2, .int (nI n), .int (nI k), .int d])), (q0, .inl (cA, 3000, .inl T)), (q1, .inl (cB, 40, .inl G)), (q2, .inl (cC, 20, .inl E))] U.heap ∧ va_K (dC, dI) vwCl [(cA, .int), (cB, .int), (cC, .int)] U ∧ va_D (fun _ => True) [(h0, .inr (1, [.ref q0, .ref q1, .ref q2, .int (nI n), .int (nI k), .int d])), (q0, .inl (cA, 3000, .inl T)), (q1, .inl (cB, 40, .inl G)), (q2, .inl (cC, 20, .inl E))])) (va_Qi (fun (r : Int32) (u : tM) => r = (sp_insert x fl y n T0 k G0).1 ∧ tE u.1 (sp_insert x fl y n T0 k G0).2) (at_M dC dI (va_A [(h0, .inr (1, [.ref q0, .ref q1, .ref q2, .int (nI n), .int (nI k), .int d])), (q0, .inl (cA, 3000, .inl T)), (q1, .inl (cB, 40, .inl G)), (q2, .inl (cC, 20, .inl E))] sz) h0 q0 q1 q2 cA cB cC) (va_A [(h0, .inr (1, [.ref q0, .ref q1, .ref q2, .int (nI n), .int (nI k), .int d])), (q0, .inl (cA, 3000, .inl T)), (q1, .inl (cB, 40, .inl G)), (q2, .inl (cC, 20, .inl E))] sz)) 0 0 (va_A [(h0, .inr (1, [.ref q0, .ref q1, .ref q2, .int (nI n), .int (nI k), .int d])), (q0, .inl (cA, 3000, .inl T)), (q1, .inl (cB, 40, .inl G)), (q2, .inl (cC, 20, .inl E))] sz) := by
  refine Met.ofW (cc := cX1_insert) (maxL := 5) (ret := (some .int)) (by decide) rfl ?_
  intro p e s m args below meth c s₁ B hml hv
  obtain ⟨rfl, hsz, hP, hK, hD0⟩ := hv
  have hx := B.exec
  have hb := B.bytes
  have hr := B.returns
  have hts := atoms_spec (ws := wsX1_insert) B.pre
  have hown : s.vm.findClass RX1 = some m.cls := findClass_of_methodNamed B.named
  have hlocks := B.notSynchronized
  subst hsz
  have hD := hD0.self (sz := s.heap.size)
  generalize hAe : va_A [(h0, .inr (1, [.ref q0, .ref q1, .ref q2, .int (nI n), .int (nI k), .int d])), (q0, .inl (cA, 3000, .inl T)), (q1, .inl (cB, 40, .inl G)), (q2, .inl (cC, 20, .inl E))] s.heap.size = A at hD ⊢
  have hA : ∀ q : Nat, s.heap.size ≤ q → A q := fun q h => by rw [← hAe]; exact Or.inr h
  have hS : va_S A s.heap s.heap [] := va_S.rf
  have hP : va_P (dC, dI) vwCl [(h0, .inr (1, [.ref q0, .ref q1, .ref q2, .int (nI n), .int (nI k), .int d])), (q0, .inl (cA, 3000, .inl T)), (q1, .inl (cB, 40, .inl G)), (q2, .inl (cC, 20, .inl E))] s.heap := hP
  have hinX1 : ∀ w ∈ u_ws RX1 TX1 6, w ∈ wsX1_insert := fun w h => List.mem_cons_of_mem _ (inX1 w h)
  have hl := lv_entry ([.ref h0, .int x, .int fl, .long y]) (n := 5) (Nat.le_of_ble_eq_true rfl)
  rw [lg_entry_eq]
  generalize (lg_sl ([.ref h0, .int x, .int fl, .long y]) ++ List.replicate (5 - (lg_sl ([.ref h0, .int x, .int fl, .long y])).length) Slot.unset).toArray = ls at hl ⊢
  have hl : lv_has ls 5 [(0, .ref h0), (1, .int x), (2, .int fl), (3, .long y)] := hl
  refine tl_q (fun Q hQ => ?_)
  refine lv_iload_n hx hb dX1_insert_0 rfl (lv_at hl 1 rfl) ?_
  refine lv_if_lt (tgt := 12) hx hb dX1_insert_1 rfl (fun h1 => ?_) (fun h1 => ?_)
  · skip
    have h1 := (tl_lt (show x.toInt = x.toInt from rfl) (show (0 : Int32).toInt = (0 : Int) from Int32.toInt_zero)).mp h1
    refine lv_iconst (v := (-1 : Int32)) hx hb dX1_insert_12 (by decide) ?_
    subst hQ
    exact W.iret (v := (-1 : Int32)) hx hb hr (fun t ht hW => ⟨⟨(-1 : Int32), ((n, T, k, G), E, d), rfl, (by rw [(show sp_insert x fl y n T0 k G0 = ((-1 : Int32), (n, T0, k, G0)) from (by unfold sp_insert; (repeat' split) <;> first | rfl | (exfalso; omega)))]; exact ⟨rfl, tE_mk hT hG hn hk⟩), by rw [ht]; exact hP, va_K.moved hW.alike hK, hD⟩, hS.F ht⟩) hS.2.2 dX1_insert_13
  · skip
    have h1 := (not_congr (tl_lt (show x.toInt = x.toInt from rfl) (show (0 : Int32).toInt = (0 : Int) from Int32.toInt_zero))).mp h1
    refine lv_iload_n hx hb dX1_insert_4 rfl (lv_at hl 1 rfl) ?_
    refine lv_aload_n hx hb dX1_insert_5 rfl (lv_at hl 0 rfl) ?_
    refine va_get (D := (dC, dI)) (ci := 1) (v := .int (nI n)) (C := RX1) (T := TX1) (N := 6) hx hb hts hinX1 hown hK hP 0 rfl rfl 3 (by decide) (hts _ (List.mem_cons_of_mem _ k248)) (fun _ h9 => h9) rfl dX1_insert_6 ?_
    refine lv_icmp_le (tgt := 14) hx hb dX1_insert_9 rfl (fun h9 => ?_) (fun h9 => ?_)
    · skip
      have h9 := (tl_le (show x.toInt = x.toInt from rfl) (show (nI n).toInt = ((n : Nat) : Int) from (nI_toInt (by omega)))).mp h9
      obtain ⟨a, lta, rfl⟩ := tl_of (x := x) (by omega)
      have ea : (nI a).toInt = ((a : Nat) : Int) := nI_toInt lta
      refine lv_iload_n hx hb dX1_insert_14 rfl (lv_at hl 2 rfl) ?_
      refine lv_if_ne (tgt := 24) hx hb dX1_insert_15 rfl (fun h15 => ?_) (fun h15 => ?_)
      · skip
        have h15 := (not_congr (tl_eq (show fl.toInt = fl.toInt from rfl) (show (0 : Int32).toInt = (0 : Int) from Int32.toInt_zero))).mp h15
        refine lv_aload_n hx hb dX1_insert_24 rfl (lv_at hl 0 rfl) ?_
        refine lv_lload_n hx hb dX1_insert_25 rfl (lv_at hl 3 rfl) ?_
        have hPc := hP.sub (ws' := [(h0, .inr (1, [.ref q0, .ref q1, .ref q2, .int (nI n), .int (nI k), .int d])), (q0, .inl (cA, 3000, .inl T)), (q1, .inl (cB, 40, .inl G)), (q2, .inl (cC, 20, .inl E))]) [0, 1, 2, 3] rfl
        have hDc := hD.sub (ws' := [(h0, .inr (1, [.ref q0, .ref q1, .ref q2, .int (nI n), .int (nI k), .int d])), (q0, .inl (cA, 3000, .inl T)), (q1, .inl (cB, 40, .inl G)), (q2, .inl (cC, 20, .inl E))]) [0, 1, 2, 3] (by decide) rfl
        have hKc := hK
        have hFc := va_free (wc := [(h0, .inr (1, [.ref q0, .ref q1, .ref q2, .int (nI n), .int (nI k), .int d])), (q0, .inl (cA, 3000, .inl T)), (q1, .inl (cB, 40, .inl G)), (q2, .inl (cC, 20, .inl E))]) hD hS hA [0, 1, 2, 3] rfl
        refine va_callv (va_runV (As := [.long y]) (rest := []) ⟨hx, hb, hml, hown, hts⟩ (c_M_digits l dC dI h0 q0 q1 q2 s.heap.size n k cA cB cC T G T0 G0 hT hG (by omega) hk E d y) (cwV 1 hts (gV_ (fun w h => List.mem_cons_of_mem _ h) k290 k292 k12 k22 k293) rfl rfl rfl (by decide +kernel) ⟨Nat.le_of_ble_eq_true rfl, Nat.le_of_ble_eq_true rfl⟩) ⟨fun a U g mk q => by obtain ⟨q0, q1, qP, qK, qD⟩ := q; exact ⟨q0, q1, qP, va_K.moved (u := U) (U := U.calling g mk a) (Vm.Alike.refl U.vm) qK, qD⟩, va_recv hKc hPc (ci := 1) (q0 := 0) rfl rfl, fun U hU hW => ⟨rfl, by rw [hU], by rw [hU]; exact hPc, va_K.moved hW.alike hKc, hDc.weaken (fun _ _ _ _ => trivial)⟩⟩ rfl rfl hl.1 rfl (lv_room (Nat.le_of_ble_eq_true rfl)) dX1_insert_26 ⟨Nat.le_of_ble_eq_true rfl, Nat.le_of_ble_eq_true rfl⟩) hS (fun q _ h => hFc q h) hFc (fun u26 t H locs ht hvm w26 hB hz1 hk1 hS => ?_)
        try dsimp only at w26
        obtain ⟨u1, E2, d2⟩ := u26
        obtain ⟨hu1, hu2, hE2⟩ := w26
        dsimp only at hu1 hu2 hE2
        subst hu1
        subst hu2
        have hm20 := dg_m_le y
        obtain ⟨hP1, hK1, hD1⟩ := hB
        rw [ht] at hP1
        obtain ⟨hP, hD⟩ := va_join (wr := []) (w1 := [(h0, .inr (1, [.ref q0, .ref q1, .ref q2, .int (nI n), .int (nI k), .int (nI (dg_m y))])), (q0, .inl (cA, 3000, .inl T)), (q1, .inl (cB, 40, .inl G)), (q2, .inl (cC, 20, .inl E2))]) hP hD [0, 1, 2, 3] [] rfl rfl (by decide) (by decide) hk1 hFc hP1 hD1
        have hP : va_P (dC, dI) vwCl [(h0, .inr (1, [.ref q0, .ref q1, .ref q2, .int (nI n), .int (nI k), .int (nI (dg_m y))])), (q0, .inl (cA, 3000, .inl T)), (q1, .inl (cB, 40, .inl G)), (q2, .inl (cC, 20, .inl E2))] H := hP
        have hD : va_D A [(h0, .inr (1, [.ref q0, .ref q1, .ref q2, .int (nI n), .int (nI k), .int (nI (dg_m y))])), (q0, .inl (cA, 3000, .inl T)), (q1, .inl (cB, 40, .inl G)), (q2, .inl (cC, 20, .inl E2))] := hD
        refine lv_aload_n hx hb dX1_insert_29 rfl (lv_at hl 0 rfl) ?_
        refine lv_iload_n hx hb dX1_insert_30 rfl (lv_at hl 1 rfl) ?_
        have hPc := hP.sub (ws' := [(h0, .inr (1, [.ref q0, .ref q1, .ref q2, .int (nI n), .int (nI k), .int (nI (dg_m y))])), (q0, .inl (cA, 3000, .inl T)), (q1, .inl (cB, 40, .inl G)), (q2, .inl (cC, 20, .inl E2))]) [0, 1, 2, 3] rfl
        have hDc := hD.sub (ws' := [(h0, .inr (1, [.ref q0, .ref q1, .ref q2, .int (nI n), .int (nI k), .int (nI (dg_m y))])), (q0, .inl (cA, 3000, .inl T)), (q1, .inl (cB, 40, .inl G)), (q2, .inl (cC, 20, .inl E2))]) [0, 1, 2, 3] (by decide) rfl
        have hKc := hK
        have hFc := va_free (wc := [(h0, .inr (1, [.ref q0, .ref q1, .ref q2, .int (nI n), .int (nI k), .int (nI (dg_m y))])), (q0, .inl (cA, 3000, .inl T)), (q1, .inl (cB, 40, .inl G)), (q2, .inl (cC, 20, .inl E2))]) hD hS hA [0, 1, 2, 3] rfl
        refine va_calli (va_runV (As := [.int (nI a)]) (rest := []) ⟨hx, hb, hml, hown, hts⟩ (c_M_putDigits l dC dI h0 q0 q1 q2 H.size n k cA cB cC T G T0 G0 hT hG (by omega) hk E2 (dg_m y) (dg_w y) (by omega) hE2 a (by omega)) (cwV 1 hts (gV_ (fun w h => List.mem_cons_of_mem _ h) k295 k297 k13 k22 k298) rfl rfl rfl (by decide +kernel) ⟨Nat.le_of_ble_eq_true rfl, Nat.le_of_ble_eq_true rfl⟩) ⟨fun a U g mk q => by obtain ⟨q0, q1, qP, qK, qD⟩ := q; exact ⟨q0, q1, qP, va_K.moved (u := U) (U := U.calling g mk a) (Vm.Alike.refl U.vm) qK, qD⟩, va_recv hKc hPc (ci := 1) (q0 := 0) rfl rfl, fun U hU hW => ⟨rfl, by rw [hU], by rw [hU]; exact hPc, va_K.moved hW.alike hKc, hDc.weaken (fun _ _ _ _ => trivial)⟩⟩ rfl rfl hl.1 rfl (lv_room (Nat.le_of_ble_eq_true rfl)) dX1_insert_31 ⟨Nat.le_of_ble_eq_true rfl, Nat.le_of_ble_eq_true rfl⟩) hS (fun q _ h => hFc q h) hFc (fun r31 u31 t H locs ht hvm w31 hB hz1 hk1 hS => ?_)
        try dsimp only at w31
        obtain ⟨⟨n2, T2, k2, G2⟩, E3, d3⟩ := u31
        obtain ⟨hP1, hK1, hD1⟩ := hB
        rw [ht] at hP1
        obtain ⟨hP, hD⟩ := va_join (wr := []) (w1 := [(h0, .inr (1, [.ref q0, .ref q1, .ref q2, .int (nI n2), .int (nI k2), .int d3])), (q0, .inl (cA, 3000, .inl T2)), (q1, .inl (cB, 40, .inl G2)), (q2, .inl (cC, 20, .inl E3))]) hP hD [0, 1, 2, 3] [] rfl rfl (by decide) (by decide) hk1 hFc hP1 hD1
        have hP : va_P (dC, dI) vwCl [(h0, .inr (1, [.ref q0, .ref q1, .ref q2, .int (nI n2), .int (nI k2), .int d3])), (q0, .inl (cA, 3000, .inl T2)), (q1, .inl (cB, 40, .inl G2)), (q2, .inl (cC, 20, .inl E3))] H := hP
        have hD : va_D A [(h0, .inr (1, [.ref q0, .ref q1, .ref q2, .int (nI n2), .int (nI k2), .int d3])), (q0, .inl (cA, 3000, .inl T2)), (q1, .inl (cB, 40, .inl G2)), (q2, .inl (cC, 20, .inl E3))] := hD
        subst hQ
        exact W.iret (v := r31) hx hb hr (fun t ht hW => ⟨⟨r31, ((n2, T2, k2, G2), E3, d3), rfl, (by rw [show sp_insert (nI a) fl y n T0 k G0 = sp_put a a (dg_w y) (dg_m y) n T0 k G0 from (by unfold sp_insert; (try simp only [nI_clamp lta]); (repeat' split) <;> first | rfl | (exfalso; omega))]; exact w31), by rw [ht]; exact hP, va_K.moved hW.alike hK, hD⟩, hS.F ht⟩) hS.2.2 dX1_insert_34
      · skip
        have h15 := (tl_eq (show fl.toInt = fl.toInt from rfl) (show (0 : Int32).toInt = (0 : Int) from Int32.toInt_zero)).mp h15
        refine lv_aload_n hx hb dX1_insert_18 rfl (lv_at hl 0 rfl) ?_
        refine lv_iload_n hx hb dX1_insert_19 rfl (lv_at hl 1 rfl) ?_
        have hPc := hP.sub (ws' := [(h0, .inr (1, [.ref q0, .ref q1, .ref q2, .int (nI n), .int (nI k), .int d])), (q0, .inl (cA, 3000, .inl T)), (q1, .inl (cB, 40, .inl G)), (q2, .inl (cC, 20, .inl E))]) [0, 1, 2, 3] rfl
        have hDc := hD.sub (ws' := [(h0, .inr (1, [.ref q0, .ref q1, .ref q2, .int (nI n), .int (nI k), .int d])), (q0, .inl (cA, 3000, .inl T)), (q1, .inl (cB, 40, .inl G)), (q2, .inl (cC, 20, .inl E))]) [0, 1, 2, 3] (by decide) rfl
        have hKc := hK
        have hFc := va_free (wc := [(h0, .inr (1, [.ref q0, .ref q1, .ref q2, .int (nI n), .int (nI k), .int d])), (q0, .inl (cA, 3000, .inl T)), (q1, .inl (cB, 40, .inl G)), (q2, .inl (cC, 20, .inl E))]) hD hS hA [0, 1, 2, 3] rfl
        refine va_calli (va_runV (As := [.int (nI a)]) (rest := []) ⟨hx, hb, hml, hown, hts⟩ (c_M_putScrap l dC dI h0 q0 q1 q2 s.heap.size n k cA cB cC T G T0 G0 hT hG (by omega) hk E d a (by omega)) (cwV 1 hts (gV_ (fun w h => List.mem_cons_of_mem _ h) k315 k317 k17 k22 k318) rfl rfl rfl (by decide +kernel) ⟨Nat.le_of_ble_eq_true rfl, Nat.le_of_ble_eq_true rfl⟩) ⟨fun a U g mk q => by obtain ⟨q0, q1, qP, qK, qD⟩ := q; exact ⟨q0, q1, qP, va_K.moved (u := U) (U := U.calling g mk a) (Vm.Alike.refl U.vm) qK, qD⟩, va_recv hKc hPc (ci := 1) (q0 := 0) rfl rfl, fun U hU hW => ⟨rfl, by rw [hU], by rw [hU]; exact hPc, va_K.moved hW.alike hKc, hDc.weaken (fun _ _ _ _ => trivial)⟩⟩ rfl rfl hl.1 rfl (lv_room (Nat.le_of_ble_eq_true rfl)) dX1_insert_20 ⟨Nat.le_of_ble_eq_true rfl, Nat.le_of_ble_eq_true rfl⟩) hS (fun q _ h => hFc q h) hFc (fun r20 u20 t H locs ht hvm w20 hB hz1 hk1 hS => ?_)
        try dsimp only at w20
        obtain ⟨⟨n2, T2, k2, G2⟩, E3, d3⟩ := u20
        obtain ⟨hP1, hK1, hD1⟩ := hB
        rw [ht] at hP1
        obtain ⟨hP, hD⟩ := va_join (wr := []) (w1 := [(h0, .inr (1, [.ref q0, .ref q1, .ref q2, .int (nI n2), .int (nI k2), .int d3])), (q0, .inl (cA, 3000, .inl T2)), (q1, .inl (cB, 40, .inl G2)), (q2, .inl (cC, 20, .inl E3))]) hP hD [0, 1, 2, 3] [] rfl rfl (by decide) (by decide) hk1 hFc hP1 hD1
        have hP : va_P (dC, dI) vwCl [(h0, .inr (1, [.ref q0, .ref q1, .ref q2, .int (nI n2), .int (nI k2), .int d3])), (q0, .inl (cA, 3000, .inl T2)), (q1, .inl (cB, 40, .inl G2)), (q2, .inl (cC, 20, .inl E3))] H := hP
        have hD : va_D A [(h0, .inr (1, [.ref q0, .ref q1, .ref q2, .int (nI n2), .int (nI k2), .int d3])), (q0, .inl (cA, 3000, .inl T2)), (q1, .inl (cB, 40, .inl G2)), (q2, .inl (cC, 20, .inl E3))] := hD
        subst hQ
        exact W.iret (v := r20) hx hb hr (fun t ht hW => ⟨⟨r20, ((n2, T2, k2, G2), E3, d3), rfl, (by rw [show sp_insert (nI a) fl y n T0 k G0 = sp_put a a G0 k n T0 k G0 from (by unfold sp_insert; (try simp only [nI_clamp lta]); (repeat' split) <;> first | rfl | (exfalso; omega))]; exact w20), by rw [ht]; exact hP, va_K.moved hW.alike hK, hD⟩, hS.F ht⟩) hS.2.2 dX1_insert_23
    · skip
      have h9 := (not_congr (tl_le (show x.toInt = x.toInt from rfl) (show (nI n).toInt = ((n : Nat) : Int) from (nI_toInt (by omega))))).mp h9
      refine lv_iconst (v := (-1 : Int32)) hx hb dX1_insert_12 (by decide) ?_
      subst hQ
      exact W.iret (v := (-1 : Int32)) hx hb hr (fun t ht hW => ⟨⟨(-1 : Int32), ((n, T, k, G), E, d), rfl, (by rw [(show sp_insert x fl y n T0 k G0 = ((-1 : Int32), (n, T0, k, G0)) from (by unfold sp_insert; (repeat' split) <;> first | rfl | (exfalso; omega)))]; exact ⟨rfl, tE_mk hT hG hn hk⟩), by rw [ht]; exact hP, va_K.moved hW.alike hK, hD⟩, hS.F ht⟩) hS.2.2 dX1_insert_13
set_option maxHeartbeats 4000000 in
set_option maxRecDepth 100000 in
theorem c_M_cut (l : Launch) (dC : Nat → ClassId) (dI : Nat → Nat → Nat) (h0 q0 q1 q2 sz n k : Nat) (cA cB cC : ClassId) (T G T0 G0 : Nat → Int32) (hT : ∀ j, j < n → T j = T0 j) (hG : ∀ j, j < k → G j = G0 j) (hn : n ≤ 3000) (hk : k ≤ 40) (E : Nat → Int32) (d : Int32) (x y : Int32) : Met l yX1_cut wsX1_cut ({ frames := 1, cells := 0, slots := 0, locals := 24 } : Room) (va_Pc [.ref h0, .int x, .int y] (fun U => U.heap.size = sz ∧ va_P (dC, dI) vwCl [(h0, .inr (1, [.ref q0, .ref q1, .ref q2, .int (nI n), .int (nI k), .int d])), (q0, .inl (cA, 3000, .inl T)), (q1, .inl (cB, 40, .inl G)), (q2, .inl (cC, 20, .inl E))] U.heap ∧ va_K (dC, dI) vwCl [(cA, .int), (cB, .int), (cC, .int)] U ∧ va_D (fun _ => True) [(h0, .inr (1, [.ref q0, .ref q1, .ref q2, .int (nI n), .int (nI k), .int d])), (q0, .inl (cA, 3000, .inl T)), (q1, .inl (cB, 40, .inl G)), (q2, .inl (cC, 20, .inl E))])) (va_Qi (fun (r : Int32) (u : tM) => r = (sp_cut x y n T0 k G0).1 ∧ tE u.1 (sp_cut x y n T0 k G0).2) (at_M dC dI (va_A [(h0, .inr (1, [.ref q0, .ref q1, .ref q2, .int (nI n), .int (nI k), .int d])), (q0, .inl (cA, 3000, .inl T)), (q1, .inl (cB, 40, .inl G)), (q2, .inl (cC, 20, .inl E))] sz) h0 q0 q1 q2 cA cB cC) (va_A [(h0, .inr (1, [.ref q0, .ref q1, .ref q2, .int (nI n), .int (nI k), .int d])), (q0, .inl (cA, 3000, .inl T)), (q1, .inl (cB, 40, .inl G)), (q2, .inl (cC, 20, .inl E))] sz)) 0 0 (va_A [(h0, .inr (1, [.ref q0, .ref q1, .ref q2, .int (nI n), .int (nI k), .int d])), (q0, .inl (cA, 3000, .inl T)), (q1, .inl (cB, 40, .inl G)), (q2, .inl (cC, 20, .inl E))] sz) := by
  refine Met.ofW (cc := cX1_cut) (maxL := 3) (ret := (some .int)) (by decide) rfl ?_
  intro p e s m args below meth c s₁ B hml hv
  obtain ⟨rfl, hsz, hP, hK, hD0⟩ := hv
  have hx := B.exec
  have hb := B.bytes
  have hr := B.returns
  have hts := atoms_spec (ws := wsX1_cut) B.pre
  have hown : s.vm.findClass RX1 = some m.cls := findClass_of_methodNamed B.named
  have hlocks := B.notSynchronized
  subst hsz
  have hD := hD0.self (sz := s.heap.size)
  generalize hAe : va_A [(h0, .inr (1, [.ref q0, .ref q1, .ref q2, .int (nI n), .int (nI k), .int d])), (q0, .inl (cA, 3000, .inl T)), (q1, .inl (cB, 40, .inl G)), (q2, .inl (cC, 20, .inl E))] s.heap.size = A at hD ⊢
  have hA : ∀ q : Nat, s.heap.size ≤ q → A q := fun q h => by rw [← hAe]; exact Or.inr h
  have hS : va_S A s.heap s.heap [] := va_S.rf
  have hP : va_P (dC, dI) vwCl [(h0, .inr (1, [.ref q0, .ref q1, .ref q2, .int (nI n), .int (nI k), .int d])), (q0, .inl (cA, 3000, .inl T)), (q1, .inl (cB, 40, .inl G)), (q2, .inl (cC, 20, .inl E))] s.heap := hP
  have hinX1 : ∀ w ∈ u_ws RX1 TX1 6, w ∈ wsX1_cut := fun w h => List.mem_cons_of_mem _ (inX1 w h)
  have hl := lv_entry ([.ref h0, .int x, .int y]) (n := 3) (Nat.le_of_ble_eq_true rfl)
  rw [lg_entry_eq]
  generalize (lg_sl ([.ref h0, .int x, .int y]) ++ List.replicate (3 - (lg_sl ([.ref h0, .int x, .int y])).length) Slot.unset).toArray = ls at hl ⊢
  have hl : lv_has ls 3 [(0, .ref h0), (1, .int x), (2, .int y)] := hl
  refine tl_q (fun Q hQ => ?_)
  refine lv_iload_n hx hb dX1_cut_0 rfl (lv_at hl 1 rfl) ?_
  refine lv_if_lt (tgt := 17) hx hb dX1_cut_1 rfl (fun h1 => ?_) (fun h1 => ?_)
  · skip
    have h1 := (tl_lt (show x.toInt = x.toInt from rfl) (show (0 : Int32).toInt = (0 : Int) from Int32.toInt_zero)).mp h1
    refine lv_iconst (v := (-1 : Int32)) hx hb dX1_cut_17 (by decide) ?_
    subst hQ
    exact W.iret (v := (-1 : Int32)) hx hb hr (fun t ht hW => ⟨⟨(-1 : Int32), ((n, T, k, G), E, d), rfl, (by rw [(show sp_cut x y n T0 k G0 = ((-1 : Int32), (n, T0, k, G0)) from (by unfold sp_cut; (repeat' split) <;> first | rfl | (exfalso; omega)))]; exact ⟨rfl, tE_mk hT hG hn hk⟩), by rw [ht]; exact hP, va_K.moved hW.alike hK, hD⟩, hS.F ht⟩) hS.2.2 dX1_cut_18
  · skip
    have h1 := (not_congr (tl_lt (show x.toInt = x.toInt from rfl) (show (0 : Int32).toInt = (0 : Int) from Int32.toInt_zero))).mp h1
    refine lv_iload_n hx hb dX1_cut_4 rfl (lv_at hl 1 rfl) ?_
    refine lv_aload_n hx hb dX1_cut_5 rfl (lv_at hl 0 rfl) ?_
    refine va_get (D := (dC, dI)) (ci := 1) (v := .int (nI n)) (C := RX1) (T := TX1) (N := 6) hx hb hts hinX1 hown hK hP 0 rfl rfl 3 (by decide) (hts _ (List.mem_cons_of_mem _ k248)) (fun _ h9 => h9) rfl dX1_cut_6 ?_
    refine lv_icmp_gt (tgt := 17) hx hb dX1_cut_9 rfl (fun h9 => ?_) (fun h9 => ?_)
    · skip
      have h9 := (tl_lt (show (nI n).toInt = ((n : Nat) : Int) from (nI_toInt (by omega))) (show x.toInt = x.toInt from rfl)).mp h9
      refine lv_iconst (v := (-1 : Int32)) hx hb dX1_cut_17 (by decide) ?_
      subst hQ
      exact W.iret (v := (-1 : Int32)) hx hb hr (fun t ht hW => ⟨⟨(-1 : Int32), ((n, T, k, G), E, d), rfl, (by rw [(show sp_cut x y n T0 k G0 = ((-1 : Int32), (n, T0, k, G0)) from (by unfold sp_cut; (repeat' split) <;> first | rfl | (exfalso; omega)))]; exact ⟨rfl, tE_mk hT hG hn hk⟩), by rw [ht]; exact hP, va_K.moved hW.alike hK, hD⟩, hS.F ht⟩) hS.2.2 dX1_cut_18
    · skip
      have h9 := (not_congr (tl_lt (show (nI n).toInt = ((n : Nat) : Int) from (nI_toInt (by omega))) (show x.toInt = x.toInt from rfl))).mp h9
      refine lv_iload_n hx hb dX1_cut_12 rfl (lv_at hl 2 rfl) ?_
      refine lv_iload_n hx hb dX1_cut_13 rfl (lv_at hl 1 rfl) ?_
      refine lv_icmp_ge (tgt := 19) hx hb dX1_cut_14 rfl (fun h14 => ?_) (fun h14 => ?_)
      · skip
        have h14 := (tl_le (show x.toInt = x.toInt from rfl) (show y.toInt = y.toInt from rfl)).mp h14
        obtain ⟨a, lta, rfl⟩ := tl_of (x := x) (by omega)
        have ea : (nI a).toInt = ((a : Nat) : Int) := nI_toInt lta
        obtain ⟨b, ltb, rfl⟩ := tl_of (x := y) (by omega)
        have eb : (nI b).toInt = ((b : Nat) : Int) := nI_toInt ltb
        refine lv_aload_n hx hb dX1_cut_19 rfl (lv_at hl 0 rfl) ?_
        refine lv_iload_n hx hb dX1_cut_20 rfl (lv_at hl 1 rfl) ?_
        refine lv_iload_n hx hb dX1_cut_21 rfl (lv_at hl 2 rfl) ?_
        refine lv_aload_n hx hb dX1_cut_22 rfl (lv_at hl 0 rfl) ?_
        refine va_get (D := (dC, dI)) (ci := 1) (v := .int (nI n)) (C := RX1) (T := TX1) (N := 6) hx hb hts hinX1 hown hK hP 0 rfl rfl 3 (by decide) (hts _ (List.mem_cons_of_mem _ k248)) (fun _ h9 => h9) rfl dX1_cut_23 ?_
        refine lv_icmp_le (tgt := 36) hx hb dX1_cut_26 rfl (fun h26 => ?_) (fun h26 => ?_)
        · skip
          have h26 := (tl_le (show (nI b).toInt = ((b : Nat) : Int) from (nI_toInt (by omega))) (show (nI n).toInt = ((n : Nat) : Int) from (nI_toInt (by omega)))).mp h26
          refine lv_iload_n hx hb dX1_cut_36 rfl (lv_at hl 2 rfl) ?_
          have hPc := hP.sub (ws' := [(h0, .inr (1, [.ref q0, .ref q1, .ref q2, .int (nI n), .int (nI k), .int d])), (q0, .inl (cA, 3000, .inl T)), (q1, .inl (cB, 40, .inl G)), (q2, .inl (cC, 20, .inl E))]) [0, 1, 2, 3] rfl
          have hDc := hD.sub (ws' := [(h0, .inr (1, [.ref q0, .ref q1, .ref q2, .int (nI n), .int (nI k), .int d])), (q0, .inl (cA, 3000, .inl T)), (q1, .inl (cB, 40, .inl G)), (q2, .inl (cC, 20, .inl E))]) [0, 1, 2, 3] (by decide) rfl
          have hKc := hK
          have hFc := va_free (wc := [(h0, .inr (1, [.ref q0, .ref q1, .ref q2, .int (nI n), .int (nI k), .int d])), (q0, .inl (cA, 3000, .inl T)), (q1, .inl (cB, 40, .inl G)), (q2, .inl (cC, 20, .inl E))]) hD hS hA [0, 1, 2, 3] rfl
          refine va_callv (va_runV (As := [.int (nI a), .int (nI b)]) (rest := []) ⟨hx, hb, hml, hown, hts⟩ (c_M_close l dC dI h0 q0 q1 q2 s.heap.size n k cA cB cC T G T0 G0 hT hG (by omega) hk E d a b (by omega) (by omega)) (cwV 2 hts (gV_ (fun w h => List.mem_cons_of_mem _ h) k327 k329 k18 k22 k330) rfl rfl rfl (by decide +kernel) ⟨Nat.le_of_ble_eq_true rfl, Nat.le_of_ble_eq_true rfl⟩) ⟨fun a U g mk q => by obtain ⟨q0, q1, qP, qK, qD⟩ := q; exact ⟨q0, q1, qP, va_K.moved (u := U) (U := U.calling g mk a) (Vm.Alike.refl U.vm) qK, qD⟩, va_recv hKc hPc (ci := 1) (q0 := 0) rfl rfl, fun U hU hW => ⟨rfl, by rw [hU], by rw [hU]; exact hPc, va_K.moved hW.alike hKc, hDc.weaken (fun _ _ _ _ => trivial)⟩⟩ rfl rfl hl.1 rfl (lv_room (Nat.le_of_ble_eq_true rfl)) dX1_cut_37 ⟨Nat.le_of_ble_eq_true rfl, Nat.le_of_ble_eq_true rfl⟩) hS (fun q _ h => hFc q h) hFc (fun u37 t H locs ht hvm w37 hB hz1 hk1 hS => ?_)
          try dsimp only at w37
          obtain ⟨F2, rfl, hO1, hO2⟩ := w37
          have hF9 := pm_cut (w := G0) hT (show a ≤ b by omega) (show b ≤ n by omega) hO1 hO2
          obtain ⟨hP1, hK1, hD1⟩ := hB
          rw [ht] at hP1
          obtain ⟨hP, hD⟩ := va_join (wr := []) (w1 := [(h0, .inr (1, [.ref q0, .ref q1, .ref q2, .int (nI (n - (b - a))), .int (nI k), .int d])), (q0, .inl (cA, 3000, .inl F2)), (q1, .inl (cB, 40, .inl G)), (q2, .inl (cC, 20, .inl E))]) hP hD [0, 1, 2, 3] [] rfl rfl (by decide) (by decide) hk1 hFc hP1 hD1
          have hP : va_P (dC, dI) vwCl [(h0, .inr (1, [.ref q0, .ref q1, .ref q2, .int (nI (n - (b - a))), .int (nI k), .int d])), (q0, .inl (cA, 3000, .inl F2)), (q1, .inl (cB, 40, .inl G)), (q2, .inl (cC, 20, .inl E))] H := hP
          have hD : va_D A [(h0, .inr (1, [.ref q0, .ref q1, .ref q2, .int (nI (n - (b - a))), .int (nI k), .int d])), (q0, .inl (cA, 3000, .inl F2)), (q1, .inl (cB, 40, .inl G)), (q2, .inl (cC, 20, .inl E))] := hD
          refine lv_aload_n hx hb dX1_cut_40 rfl (lv_at hl 0 rfl) ?_
          refine va_get (D := (dC, dI)) (ci := 1) (v := .int (nI (n - (b - a)))) (C := RX1) (T := TX1) (N := 6) hx hb hts hinX1 hown hK hP 0 rfl rfl 3 (by decide) (hts _ (List.mem_cons_of_mem _ k248)) (fun _ h9 => h9) rfl dX1_cut_41 ?_
          subst hQ
          exact W.iret (v := nI (n - (b - a))) hx hb hr (fun t ht hW => ⟨⟨nI (n - (b - a)), ((n - (b - a), F2, k, G), E, d), rfl, (by rw [show sp_cut (nI a) (nI b) n T0 k G0 = sp_put a b G0 0 n T0 k G0 from (by unfold sp_cut; simp only [nI_clamp lta, nI_clamp ltb]; rw [if_pos (by omega), show min b n = b by omega])]; unfold sp_put; rw [if_pos (by omega)]; exact ⟨rfl, tE_mk hF9 hG (by omega) hk⟩), by rw [ht]; exact hP, va_K.moved hW.alike hK, hD⟩, hS.F ht⟩) hS.2.2 dX1_cut_44
        · skip
          have h26 := (not_congr (tl_le (show (nI b).toInt = ((b : Nat) : Int) from (nI_toInt (by omega))) (show (nI n).toInt = ((n : Nat) : Int) from (nI_toInt (by omega))))).mp h26
          refine lv_aload_n hx hb dX1_cut_29 rfl (lv_at hl 0 rfl) ?_
          refine va_get (D := (dC, dI)) (ci := 1) (v := .int (nI n)) (C := RX1) (T := TX1) (N := 6) hx hb hts hinX1 hown hK hP 0 rfl rfl 3 (by decide) (hts _ (List.mem_cons_of_mem _ k248)) (fun _ h9 => h9) rfl dX1_cut_30 ?_
          refine lv_goto (tgt := 37) hx hb dX1_cut_33 rfl ?_
          have hPc := hP.sub (ws' := [(h0, .inr (1, [.ref q0, .ref q1, .ref q2, .int (nI n), .int (nI k), .int d])), (q0, .inl (cA, 3000, .inl T)), (q1, .inl (cB, 40, .inl G)), (q2, .inl (cC, 20, .inl E))]) [0, 1, 2, 3] rfl
          have hDc := hD.sub (ws' := [(h0, .inr (1, [.ref q0, .ref q1, .ref q2, .int (nI n), .int (nI k), .int d])), (q0, .inl (cA, 3000, .inl T)), (q1, .inl (cB, 40, .inl G)), (q2, .inl (cC, 20, .inl E))]) [0, 1, 2, 3] (by decide) rfl
          have hKc := hK
          have hFc := va_free (wc := [(h0, .inr (1, [.ref q0, .ref q1, .ref q2, .int (nI n), .int (nI k), .int d])), (q0, .inl (cA, 3000, .inl T)), (q1, .inl (cB, 40, .inl G)), (q2, .inl (cC, 20, .inl E))]) hD hS hA [0, 1, 2, 3] rfl
          refine va_callv (va_runV (As := [.int (nI a), .int (nI n)]) (rest := []) ⟨hx, hb, hml, hown, hts⟩ (c_M_close l dC dI h0 q0 q1 q2 s.heap.size n k cA cB cC T G T0 G0 hT hG (by omega) hk E d a n (by omega) (by omega)) (cwV 2 hts (gV_ (fun w h => List.mem_cons_of_mem _ h) k327 k329 k18 k22 k330) rfl rfl rfl (by decide +kernel) ⟨Nat.le_of_ble_eq_true rfl, Nat.le_of_ble_eq_true rfl⟩) ⟨fun a U g mk q => by obtain ⟨q0, q1, qP, qK, qD⟩ := q; exact ⟨q0, q1, qP, va_K.moved (u := U) (U := U.calling g mk a) (Vm.Alike.refl U.vm) qK, qD⟩, va_recv hKc hPc (ci := 1) (q0 := 0) rfl rfl, fun U hU hW => ⟨rfl, by rw [hU], by rw [hU]; exact hPc, va_K.moved hW.alike hKc, hDc.weaken (fun _ _ _ _ => trivial)⟩⟩ rfl rfl hl.1 rfl (lv_room (Nat.le_of_ble_eq_true rfl)) dX1_cut_37 ⟨Nat.le_of_ble_eq_true rfl, Nat.le_of_ble_eq_true rfl⟩) hS (fun q _ h => hFc q h) hFc (fun u37 t H locs ht hvm w37 hB hz1 hk1 hS => ?_)
          try dsimp only at w37
          obtain ⟨F2, rfl, hO1, hO2⟩ := w37
          have hF9 := pm_cut (w := G0) hT (show a ≤ n by omega) (show n ≤ n by omega) hO1 hO2
          obtain ⟨hP1, hK1, hD1⟩ := hB
          rw [ht] at hP1
          obtain ⟨hP, hD⟩ := va_join (wr := []) (w1 := [(h0, .inr (1, [.ref q0, .ref q1, .ref q2, .int (nI (n - (n - a))), .int (nI k), .int d])), (q0, .inl (cA, 3000, .inl F2)), (q1, .inl (cB, 40, .inl G)), (q2, .inl (cC, 20, .inl E))]) hP hD [0, 1, 2, 3] [] rfl rfl (by decide) (by decide) hk1 hFc hP1 hD1
          have hP : va_P (dC, dI) vwCl [(h0, .inr (1, [.ref q0, .ref q1, .ref q2, .int (nI (n - (n - a))), .int (nI k), .int d])), (q0, .inl (cA, 3000, .inl F2)), (q1, .inl (cB, 40, .inl G)), (q2, .inl (cC, 20, .inl E))] H := hP
          have hD : va_D A [(h0, .inr (1, [.ref q0, .ref q1, .ref q2, .int (nI (n - (n - a))), .int (nI k), .int d])), (q0, .inl (cA, 3000, .inl F2)), (q1, .inl (cB, 40, .inl G)), (q2, .inl (cC, 20, .inl E))] := hD
          refine lv_aload_n hx hb dX1_cut_40 rfl (lv_at hl 0 rfl) ?_
          refine va_get (D := (dC, dI)) (ci := 1) (v := .int (nI (n - (n - a)))) (C := RX1) (T := TX1) (N := 6) hx hb hts hinX1 hown hK hP 0 rfl rfl 3 (by decide) (hts _ (List.mem_cons_of_mem _ k248)) (fun _ h9 => h9) rfl dX1_cut_41 ?_
          subst hQ
          exact W.iret (v := nI (n - (n - a))) hx hb hr (fun t ht hW => ⟨⟨nI (n - (n - a)), ((n - (n - a), F2, k, G), E, d), rfl, (by rw [show sp_cut (nI a) (nI b) n T0 k G0 = sp_put a n G0 0 n T0 k G0 from (by unfold sp_cut; simp only [nI_clamp lta, nI_clamp ltb]; rw [if_pos (by omega), show min b n = n by omega])]; unfold sp_put; rw [if_pos (by omega)]; exact ⟨rfl, tE_mk hF9 hG (by omega) hk⟩), by rw [ht]; exact hP, va_K.moved hW.alike hK, hD⟩, hS.F ht⟩) hS.2.2 dX1_cut_44
      · skip
        have h14 := (not_congr (tl_le (show x.toInt = x.toInt from rfl) (show y.toInt = y.toInt from rfl))).mp h14
        refine lv_iconst (v := (-1 : Int32)) hx hb dX1_cut_17 (by decide) ?_
        subst hQ
        exact W.iret (v := (-1 : Int32)) hx hb hr (fun t ht hW => ⟨⟨(-1 : Int32), ((n, T, k, G), E, d), rfl, (by rw [(show sp_cut x y n T0 k G0 = ((-1 : Int32), (n, T0, k, G0)) from (by unfold sp_cut; (repeat' split) <;> first | rfl | (exfalso; omega)))]; exact ⟨rfl, tE_mk hT hG hn hk⟩), by rw [ht]; exact hP, va_K.moved hW.alike hK, hD⟩, hS.F ht⟩) hS.2.2 dX1_cut_18
set_option maxHeartbeats 4000000 in
set_option maxRecDepth 100000 in
theorem c_M_swap (l : Launch) (dC : Nat → ClassId) (dI : Nat → Nat → Nat) (h0 q0 q1 q2 sz n k : Nat) (cA cB cC : ClassId) (T G T0 G0 : Nat → Int32) (hT : ∀ j, j < n → T j = T0 j) (hG : ∀ j, j < k → G j = G0 j) (hn : n ≤ 3000) (hk : k ≤ 40) (E : Nat → Int32) (d : Int32) (x y : Int32) : Met l yX1_swap wsX1_swap ({ frames := 2, cells := 0, slots := 0, locals := 45 } : Room) (va_Pc [.ref h0, .int x, .int y] (fun U => U.heap.size = sz ∧ va_P (dC, dI) vwCl [(h0, .inr (1, [.ref q0, .ref q1, .ref q2, .int (nI n), .int (nI k), .int d])), (q0, .inl (cA, 3000, .inl T)), (q1, .inl (cB, 40, .inl G)), (q2, .inl (cC, 20, .inl E))] U.heap ∧ va_K (dC, dI) vwCl [(cA, .int), (cB, .int), (cC, .int)] U ∧ va_D (fun _ => True) [(h0, .inr (1, [.ref q0, .ref q1, .ref q2, .int (nI n), .int (nI k), .int d])), (q0, .inl (cA, 3000, .inl T)), (q1, .inl (cB, 40, .inl G)), (q2, .inl (cC, 20, .inl E))])) (va_Qi (fun (r : Int32) (u : tM) => r = (sp_swap x y n T0 k G0).1 ∧ tE u.1 (sp_swap x y n T0 k G0).2) (at_M dC dI (va_A [(h0, .inr (1, [.ref q0, .ref q1, .ref q2, .int (nI n), .int (nI k), .int d])), (q0, .inl (cA, 3000, .inl T)), (q1, .inl (cB, 40, .inl G)), (q2, .inl (cC, 20, .inl E))] sz) h0 q0 q1 q2 cA cB cC) (va_A [(h0, .inr (1, [.ref q0, .ref q1, .ref q2, .int (nI n), .int (nI k), .int d])), (q0, .inl (cA, 3000, .inl T)), (q1, .inl (cB, 40, .inl G)), (q2, .inl (cC, 20, .inl E))] sz)) 0 0 (va_A [(h0, .inr (1, [.ref q0, .ref q1, .ref q2, .int (nI n), .int (nI k), .int d])), (q0, .inl (cA, 3000, .inl T)), (q1, .inl (cB, 40, .inl G)), (q2, .inl (cC, 20, .inl E))] sz) := by
  refine Met.ofW (cc := cX1_swap) (maxL := 4) (ret := (some .int)) (by decide) rfl ?_
  intro p e s m args below meth c s₁ B hml hv
  obtain ⟨rfl, hsz, hP, hK, hD0⟩ := hv
  have hx := B.exec
  have hb := B.bytes
  have hr := B.returns
  have hts := atoms_spec (ws := wsX1_swap) B.pre
  have hown : s.vm.findClass RX1 = some m.cls := findClass_of_methodNamed B.named
  have hlocks := B.notSynchronized
  subst hsz
  have hD := hD0.self (sz := s.heap.size)
  generalize hAe : va_A [(h0, .inr (1, [.ref q0, .ref q1, .ref q2, .int (nI n), .int (nI k), .int d])), (q0, .inl (cA, 3000, .inl T)), (q1, .inl (cB, 40, .inl G)), (q2, .inl (cC, 20, .inl E))] s.heap.size = A at hD ⊢
  have hA : ∀ q : Nat, s.heap.size ≤ q → A q := fun q h => by rw [← hAe]; exact Or.inr h
  have hS : va_S A s.heap s.heap [] := va_S.rf
  have hP : va_P (dC, dI) vwCl [(h0, .inr (1, [.ref q0, .ref q1, .ref q2, .int (nI n), .int (nI k), .int d])), (q0, .inl (cA, 3000, .inl T)), (q1, .inl (cB, 40, .inl G)), (q2, .inl (cC, 20, .inl E))] s.heap := hP
  have hinX1 : ∀ w ∈ u_ws RX1 TX1 6, w ∈ wsX1_swap := fun w h => List.mem_cons_of_mem _ (inX1 w h)
  have hl := lv_entry ([.ref h0, .int x, .int y]) (n := 4) (Nat.le_of_ble_eq_true rfl)
  rw [lg_entry_eq]
  generalize (lg_sl ([.ref h0, .int x, .int y]) ++ List.replicate (4 - (lg_sl ([.ref h0, .int x, .int y])).length) Slot.unset).toArray = ls at hl ⊢
  have hl : lv_has ls 4 [(0, .ref h0), (1, .int x), (2, .int y)] := hl
  refine tl_q (fun Q hQ => ?_)
  refine lv_iload_n hx hb dX1_swap_0 rfl (lv_at hl 1 rfl) ?_
  refine lv_if_lt (tgt := 17) hx hb dX1_swap_1 rfl (fun h1 => ?_) (fun h1 => ?_)
  · skip
    have h1 := (tl_lt (show x.toInt = x.toInt from rfl) (show (0 : Int32).toInt = (0 : Int) from Int32.toInt_zero)).mp h1
    refine lv_iconst (v := (-1 : Int32)) hx hb dX1_swap_17 (by decide) ?_
    subst hQ
    exact W.iret (v := (-1 : Int32)) hx hb hr (fun t ht hW => ⟨⟨(-1 : Int32), ((n, T, k, G), E, d), rfl, (by rw [(show sp_swap x y n T0 k G0 = ((-1 : Int32), (n, T0, k, G0)) from (by unfold sp_swap; (repeat' split) <;> first | rfl | (exfalso; omega)))]; exact ⟨rfl, tE_mk hT hG hn hk⟩), by rw [ht]; exact hP, va_K.moved hW.alike hK, hD⟩, hS.F ht⟩) hS.2.2 dX1_swap_18
  · skip
    have h1 := (not_congr (tl_lt (show x.toInt = x.toInt from rfl) (show (0 : Int32).toInt = (0 : Int) from Int32.toInt_zero))).mp h1
    refine lv_iload_n hx hb dX1_swap_4 rfl (lv_at hl 1 rfl) ?_
    refine lv_aload_n hx hb dX1_swap_5 rfl (lv_at hl 0 rfl) ?_
    refine va_get (D := (dC, dI)) (ci := 1) (v := .int (nI n)) (C := RX1) (T := TX1) (N := 6) hx hb hts hinX1 hown hK hP 0 rfl rfl 3 (by decide) (hts _ (List.mem_cons_of_mem _ k248)) (fun _ h9 => h9) rfl dX1_swap_6 ?_
    refine lv_icmp_gt (tgt := 17) hx hb dX1_swap_9 rfl (fun h9 => ?_) (fun h9 => ?_)
    · skip
      have h9 := (tl_lt (show (nI n).toInt = ((n : Nat) : Int) from (nI_toInt (by omega))) (show x.toInt = x.toInt from rfl)).mp h9
      refine lv_iconst (v := (-1 : Int32)) hx hb dX1_swap_17 (by decide) ?_
      subst hQ
      exact W.iret (v := (-1 : Int32)) hx hb hr (fun t ht hW => ⟨⟨(-1 : Int32), ((n, T, k, G), E, d), rfl, (by rw [(show sp_swap x y n T0 k G0 = ((-1 : Int32), (n, T0, k, G0)) from (by unfold sp_swap; (repeat' split) <;> first | rfl | (exfalso; omega)))]; exact ⟨rfl, tE_mk hT hG hn hk⟩), by rw [ht]; exact hP, va_K.moved hW.alike hK, hD⟩, hS.F ht⟩) hS.2.2 dX1_swap_18
    · skip
      have h9 := (not_congr (tl_lt (show (nI n).toInt = ((n : Nat) : Int) from (nI_toInt (by omega))) (show x.toInt = x.toInt from rfl))).mp h9
      refine lv_iload_n hx hb dX1_swap_12 rfl (lv_at hl 2 rfl) ?_
      refine lv_iload_n hx hb dX1_swap_13 rfl (lv_at hl 1 rfl) ?_
      refine lv_icmp_ge (tgt := 19) hx hb dX1_swap_14 rfl (fun h14 => ?_) (fun h14 => ?_)
      · skip
        have h14 := (tl_le (show x.toInt = x.toInt from rfl) (show y.toInt = y.toInt from rfl)).mp h14
        obtain ⟨a, lta, rfl⟩ := tl_of (x := x) (by omega)
        have ea : (nI a).toInt = ((a : Nat) : Int) := nI_toInt lta
        obtain ⟨b, ltb, rfl⟩ := tl_of (x := y) (by omega)
        have eb : (nI b).toInt = ((b : Nat) : Int) := nI_toInt ltb
        refine lv_iload_n hx hb dX1_swap_19 rfl (lv_at hl 2 rfl) ?_
        refine lv_aload_n hx hb dX1_swap_20 rfl (lv_at hl 0 rfl) ?_
        refine va_get (D := (dC, dI)) (ci := 1) (v := .int (nI n)) (C := RX1) (T := TX1) (N := 6) hx hb hts hinX1 hown hK hP 0 rfl rfl 3 (by decide) (hts _ (List.mem_cons_of_mem _ k248)) (fun _ h9 => h9) rfl dX1_swap_21 ?_
        refine lv_icmp_le (tgt := 34) hx hb dX1_swap_24 rfl (fun h24 => ?_) (fun h24 => ?_)
        · skip
          have h24 := (tl_le (show (nI b).toInt = ((b : Nat) : Int) from (nI_toInt (by omega))) (show (nI n).toInt = ((n : Nat) : Int) from (nI_toInt (by omega)))).mp h24
          refine lv_iload_n hx hb dX1_swap_34 rfl (lv_at hl 2 rfl) ?_
          refine lv_istore_n (lv' := [(3, .int (nI b)), (0, .ref h0), (1, .int (nI a)), (2, .int (nI b))]) hx hb dX1_swap_35 rfl hl (by decide) rfl (fun ls hl => ?_)
          refine lv_aload_n hx hb dX1_swap_36 rfl (lv_at hl 1 rfl) ?_
          refine va_get (D := (dC, dI)) (ci := 1) (v := .int (nI n)) (C := RX1) (T := TX1) (N := 6) hx hb hts hinX1 hown hK hP 0 rfl rfl 3 (by decide) (hts _ (List.mem_cons_of_mem _ k248)) (fun _ h9 => h9) rfl dX1_swap_37 ?_
          refine lv_iload_n hx hb dX1_swap_40 rfl (lv_at hl 0 rfl) ?_
          refine lv_iload_n hx hb dX1_swap_41 rfl (lv_at hl 2 rfl) ?_
          refine lv_isub hx hb dX1_swap_42 ?_
          refine tl_top (pk_sub (by omega)) ?_
          refine lv_isub hx hb dX1_swap_43 ?_
          refine tl_top (pk_sub (by omega)) ?_
          refine lv_aload_n hx hb dX1_swap_44 rfl (lv_at hl 1 rfl) ?_
          refine va_get (D := (dC, dI)) (ci := 1) (v := .int (nI k)) (C := RX1) (T := TX1) (N := 6) hx hb hts hinX1 hown hK hP 0 rfl rfl 4 (by decide) (hts _ (List.mem_cons_of_mem _ k249)) (fun _ h9 => h9) rfl dX1_swap_45 ?_
          refine lv_iadd hx hb dX1_swap_48 ?_
          refine tl_top (nI_add _ _) ?_
          refine lv_sipush (v := nI 3000) hx hb dX1_swap_49 (by decide) ?_
          refine lv_icmp_le (tgt := 58) hx hb dX1_swap_52 rfl (fun h52 => ?_) (fun h52 => ?_)
          · skip
            have h52 := (tl_le (show (nI ((n - (b - a)) + k)).toInt = (((n - (b - a)) + k : Nat) : Int) from (nI_toInt (by omega))) (show (nI 3000).toInt = (3000 : Int) from (by decide))).mp h52
            refine lv_aload_n hx hb dX1_swap_58 rfl (lv_at hl 1 rfl) ?_
            refine lv_iload_n hx hb dX1_swap_59 rfl (lv_at hl 2 rfl) ?_
            refine lv_iload_n hx hb dX1_swap_60 rfl (lv_at hl 0 rfl) ?_
            have hPc := hP.sub (ws' := [(h0, .inr (1, [.ref q0, .ref q1, .ref q2, .int (nI n), .int (nI k), .int d])), (q0, .inl (cA, 3000, .inl T)), (q1, .inl (cB, 40, .inl G)), (q2, .inl (cC, 20, .inl E))]) [0, 1, 2, 3] rfl
            have hDc := hD.sub (ws' := [(h0, .inr (1, [.ref q0, .ref q1, .ref q2, .int (nI n), .int (nI k), .int d])), (q0, .inl (cA, 3000, .inl T)), (q1, .inl (cB, 40, .inl G)), (q2, .inl (cC, 20, .inl E))]) [0, 1, 2, 3] (by decide) rfl
            have hKc := hK
            have hFc := va_free (wc := [(h0, .inr (1, [.ref q0, .ref q1, .ref q2, .int (nI n), .int (nI k), .int d])), (q0, .inl (cA, 3000, .inl T)), (q1, .inl (cB, 40, .inl G)), (q2, .inl (cC, 20, .inl E))]) hD hS hA [0, 1, 2, 3] rfl
            refine va_callv (va_runV (As := [.int (nI a), .int (nI b)]) (rest := []) ⟨hx, hb, hml, hown, hts⟩ (c_M_close l dC dI h0 q0 q1 q2 s.heap.size n k cA cB cC T G T0 G0 hT hG (by omega) hk E d a b (by omega) (by omega)) (cwV 2 hts (gV_ (fun w h => List.mem_cons_of_mem _ h) k327 k329 k18 k22 k330) rfl rfl rfl (by decide +kernel) ⟨Nat.le_of_ble_eq_true rfl, Nat.le_of_ble_eq_true rfl⟩) ⟨fun a U g mk q => by obtain ⟨q0, q1, qP, qK, qD⟩ := q; exact ⟨q0, q1, qP, va_K.moved (u := U) (U := U.calling g mk a) (Vm.Alike.refl U.vm) qK, qD⟩, va_recv hKc hPc (ci := 1) (q0 := 0) rfl rfl, fun U hU hW => ⟨rfl, by rw [hU], by rw [hU]; exact hPc, va_K.moved hW.alike hKc, hDc.weaken (fun _ _ _ _ => trivial)⟩⟩ rfl rfl hl.1 rfl (lv_room (Nat.le_of_ble_eq_true rfl)) dX1_swap_61 ⟨Nat.le_of_ble_eq_true rfl, Nat.le_of_ble_eq_true rfl⟩) hS (fun q _ h => hFc q h) hFc (fun u61 t H locs ht hvm w61 hB hz1 hk1 hS => ?_)
            try dsimp only at w61
            obtain ⟨F2, rfl, hO1, hO2⟩ := w61
            have hF9 := pm_cut (w := G0) hT (show a ≤ b by omega) (show b ≤ n by omega) hO1 hO2
            obtain ⟨hP1, hK1, hD1⟩ := hB
            rw [ht] at hP1
            obtain ⟨hP, hD⟩ := va_join (wr := []) (w1 := [(h0, .inr (1, [.ref q0, .ref q1, .ref q2, .int (nI (n - (b - a))), .int (nI k), .int d])), (q0, .inl (cA, 3000, .inl F2)), (q1, .inl (cB, 40, .inl G)), (q2, .inl (cC, 20, .inl E))]) hP hD [0, 1, 2, 3] [] rfl rfl (by decide) (by decide) hk1 hFc hP1 hD1
            have hP : va_P (dC, dI) vwCl [(h0, .inr (1, [.ref q0, .ref q1, .ref q2, .int (nI (n - (b - a))), .int (nI k), .int d])), (q0, .inl (cA, 3000, .inl F2)), (q1, .inl (cB, 40, .inl G)), (q2, .inl (cC, 20, .inl E))] H := hP
            have hD : va_D A [(h0, .inr (1, [.ref q0, .ref q1, .ref q2, .int (nI (n - (b - a))), .int (nI k), .int d])), (q0, .inl (cA, 3000, .inl F2)), (q1, .inl (cB, 40, .inl G)), (q2, .inl (cC, 20, .inl E))] := hD
            refine lv_aload_n hx hb dX1_swap_64 rfl (lv_at hl 1 rfl) ?_
            refine lv_iload_n hx hb dX1_swap_65 rfl (lv_at hl 2 rfl) ?_
            have hPc := hP.sub (ws' := [(h0, .inr (1, [.ref q0, .ref q1, .ref q2, .int (nI (n - (b - a))), .int (nI k), .int d])), (q0, .inl (cA, 3000, .inl F2)), (q1, .inl (cB, 40, .inl G)), (q2, .inl (cC, 20, .inl E))]) [0, 1, 2, 3] rfl
            have hDc := hD.sub (ws' := [(h0, .inr (1, [.ref q0, .ref q1, .ref q2, .int (nI (n - (b - a))), .int (nI k), .int d])), (q0, .inl (cA, 3000, .inl F2)), (q1, .inl (cB, 40, .inl G)), (q2, .inl (cC, 20, .inl E))]) [0, 1, 2, 3] (by decide) rfl
            have hKc := hK
            have hFc := va_free (wc := [(h0, .inr (1, [.ref q0, .ref q1, .ref q2, .int (nI (n - (b - a))), .int (nI k), .int d])), (q0, .inl (cA, 3000, .inl F2)), (q1, .inl (cB, 40, .inl G)), (q2, .inl (cC, 20, .inl E))]) hD hS hA [0, 1, 2, 3] rfl
            refine va_calli (va_runV (As := [.int (nI a)]) (rest := []) ⟨hx, hb, hml, hown, hts⟩ (c_M_putScrap l dC dI h0 q0 q1 q2 H.size (n - (b - a)) k cA cB cC F2 G (tl_rep T0 a b G0 0) G0 hF9 hG (by omega) hk E d a (by omega)) (cwV 1 hts (gV_ (fun w h => List.mem_cons_of_mem _ h) k315 k317 k17 k22 k318) rfl rfl rfl (by decide +kernel) ⟨Nat.le_of_ble_eq_true rfl, Nat.le_of_ble_eq_true rfl⟩) ⟨fun a U g mk q => by obtain ⟨q0, q1, qP, qK, qD⟩ := q; exact ⟨q0, q1, qP, va_K.moved (u := U) (U := U.calling g mk a) (Vm.Alike.refl U.vm) qK, qD⟩, va_recv hKc hPc (ci := 1) (q0 := 0) rfl rfl, fun U hU hW => ⟨rfl, by rw [hU], by rw [hU]; exact hPc, va_K.moved hW.alike hKc, hDc.weaken (fun _ _ _ _ => trivial)⟩⟩ rfl rfl hl.1 rfl (lv_room (Nat.le_of_ble_eq_true rfl)) dX1_swap_66 ⟨Nat.le_of_ble_eq_true rfl, Nat.le_of_ble_eq_true rfl⟩) hS (fun q _ h => hFc q h) hFc (fun r66 u66 t H locs ht hvm w66 hB hz1 hk1 hS => ?_)
            try dsimp only at w66
            obtain ⟨⟨n2, T2, k2, G2⟩, E3, d3⟩ := u66
            obtain ⟨hP1, hK1, hD1⟩ := hB
            rw [ht] at hP1
            obtain ⟨hP, hD⟩ := va_join (wr := []) (w1 := [(h0, .inr (1, [.ref q0, .ref q1, .ref q2, .int (nI n2), .int (nI k2), .int d3])), (q0, .inl (cA, 3000, .inl T2)), (q1, .inl (cB, 40, .inl G2)), (q2, .inl (cC, 20, .inl E3))]) hP hD [0, 1, 2, 3] [] rfl rfl (by decide) (by decide) hk1 hFc hP1 hD1
            have hP : va_P (dC, dI) vwCl [(h0, .inr (1, [.ref q0, .ref q1, .ref q2, .int (nI n2), .int (nI k2), .int d3])), (q0, .inl (cA, 3000, .inl T2)), (q1, .inl (cB, 40, .inl G2)), (q2, .inl (cC, 20, .inl E3))] H := hP
            have hD : va_D A [(h0, .inr (1, [.ref q0, .ref q1, .ref q2, .int (nI n2), .int (nI k2), .int d3])), (q0, .inl (cA, 3000, .inl T2)), (q1, .inl (cB, 40, .inl G2)), (q2, .inl (cC, 20, .inl E3))] := hD
            subst hQ
            exact W.iret (v := r66) hx hb hr (fun t ht hW => ⟨⟨r66, ((n2, T2, k2, G2), E3, d3), rfl, (by rw [show sp_swap (nI a) (nI b) n T0 k G0 = sp_put a b G0 k n T0 k G0 from (by unfold sp_swap; simp only [nI_clamp lta, nI_clamp ltb]; rw [if_pos (by omega), show min b n = b by omega]), pm_swap (by omega) (by omega) (by omega)]; exact w66), by rw [ht]; exact hP, va_K.moved hW.alike hK, hD⟩, hS.F ht⟩) hS.2.2 dX1_swap_69
          · skip
            have h52 := (not_congr (tl_le (show (nI ((n - (b - a)) + k)).toInt = (((n - (b - a)) + k : Nat) : Int) from (nI_toInt (by omega))) (show (nI 3000).toInt = (3000 : Int) from (by decide)))).mp h52
            refine lv_bipush (v := (-3 : Int32)) hx hb dX1_swap_55 (by decide) ?_
            subst hQ
            exact W.iret (v := (-3 : Int32)) hx hb hr (fun t ht hW => ⟨⟨(-3 : Int32), ((n, T, k, G), E, d), rfl, (by rw [show sp_swap (nI a) (nI b) n T0 k G0 = sp_put a b G0 k n T0 k G0 from (by unfold sp_swap; simp only [nI_clamp lta, nI_clamp ltb]; rw [if_pos (by omega), show min b n = b by omega])]; unfold sp_put; rw [if_neg (by omega)]; exact ⟨rfl, tE_mk hT hG hn hk⟩), by rw [ht]; exact hP, va_K.moved hW.alike hK, hD⟩, hS.F ht⟩) hS.2.2 dX1_swap_57
        · skip
          have h24 := (not_congr (tl_le (show (nI b).toInt = ((b : Nat) : Int) from (nI_toInt (by omega))) (show (nI n).toInt = ((n : Nat) : Int) from (nI_toInt (by omega))))).mp h24
          refine lv_aload_n hx hb dX1_swap_27 rfl (lv_at hl 0 rfl) ?_
          refine va_get (D := (dC, dI)) (ci := 1) (v := .int (nI n)) (C := RX1) (T := TX1) (N := 6) hx hb hts hinX1 hown hK hP 0 rfl rfl 3 (by decide) (hts _ (List.mem_cons_of_mem _ k248)) (fun _ h9 => h9) rfl dX1_swap_28 ?_
          refine lv_goto (tgt := 35) hx hb dX1_swap_31 rfl ?_
          refine lv_istore_n (lv' := [(3, .int (nI n)), (0, .ref h0), (1, .int (nI a)), (2, .int (nI b))]) hx hb dX1_swap_35 rfl hl (by decide) rfl (fun ls hl => ?_)
          refine lv_aload_n hx hb dX1_swap_36 rfl (lv_at hl 1 rfl) ?_
          refine va_get (D := (dC, dI)) (ci := 1) (v := .int (nI n)) (C := RX1) (T := TX1) (N := 6) hx hb hts hinX1 hown hK hP 0 rfl rfl 3 (by decide) (hts _ (List.mem_cons_of_mem _ k248)) (fun _ h9 => h9) rfl dX1_swap_37 ?_
          refine lv_iload_n hx hb dX1_swap_40 rfl (lv_at hl 0 rfl) ?_
          refine lv_iload_n hx hb dX1_swap_41 rfl (lv_at hl 2 rfl) ?_
          refine lv_isub hx hb dX1_swap_42 ?_
          refine tl_top (pk_sub (by omega)) ?_
          refine lv_isub hx hb dX1_swap_43 ?_
          refine tl_top (pk_sub (by omega)) ?_
          refine lv_aload_n hx hb dX1_swap_44 rfl (lv_at hl 1 rfl) ?_
          refine va_get (D := (dC, dI)) (ci := 1) (v := .int (nI k)) (C := RX1) (T := TX1) (N := 6) hx hb hts hinX1 hown hK hP 0 rfl rfl 4 (by decide) (hts _ (List.mem_cons_of_mem _ k249)) (fun _ h9 => h9) rfl dX1_swap_45 ?_
          refine lv_iadd hx hb dX1_swap_48 ?_
          refine tl_top (nI_add _ _) ?_
          refine lv_sipush (v := nI 3000) hx hb dX1_swap_49 (by decide) ?_
          refine lv_icmp_le (tgt := 58) hx hb dX1_swap_52 rfl (fun h52 => ?_) (fun h52 => ?_)
          · skip
            have h52 := (tl_le (show (nI ((n - (n - a)) + k)).toInt = (((n - (n - a)) + k : Nat) : Int) from (nI_toInt (by omega))) (show (nI 3000).toInt = (3000 : Int) from (by decide))).mp h52
            refine lv_aload_n hx hb dX1_swap_58 rfl (lv_at hl 1 rfl) ?_
            refine lv_iload_n hx hb dX1_swap_59 rfl (lv_at hl 2 rfl) ?_
            refine lv_iload_n hx hb dX1_swap_60 rfl (lv_at hl 0 rfl) ?_
            have hPc := hP.sub (ws' := [(h0, .inr (1, [.ref q0, .ref q1, .ref q2, .int (nI n), .int (nI k), .int d])), (q0, .inl (cA, 3000, .inl T)), (q1, .inl (cB, 40, .inl G)), (q2, .inl (cC, 20, .inl E))]) [0, 1, 2, 3] rfl
            have hDc := hD.sub (ws' := [(h0, .inr (1, [.ref q0, .ref q1, .ref q2, .int (nI n), .int (nI k), .int d])), (q0, .inl (cA, 3000, .inl T)), (q1, .inl (cB, 40, .inl G)), (q2, .inl (cC, 20, .inl E))]) [0, 1, 2, 3] (by decide) rfl
            have hKc := hK
            have hFc := va_free (wc := [(h0, .inr (1, [.ref q0, .ref q1, .ref q2, .int (nI n), .int (nI k), .int d])), (q0, .inl (cA, 3000, .inl T)), (q1, .inl (cB, 40, .inl G)), (q2, .inl (cC, 20, .inl E))]) hD hS hA [0, 1, 2, 3] rfl
            refine va_callv (va_runV (As := [.int (nI a), .int (nI n)]) (rest := []) ⟨hx, hb, hml, hown, hts⟩ (c_M_close l dC dI h0 q0 q1 q2 s.heap.size n k cA cB cC T G T0 G0 hT hG (by omega) hk E d a n (by omega) (by omega)) (cwV 2 hts (gV_ (fun w h => List.mem_cons_of_mem _ h) k327 k329 k18 k22 k330) rfl rfl rfl (by decide +kernel) ⟨Nat.le_of_ble_eq_true rfl, Nat.le_of_ble_eq_true rfl⟩) ⟨fun a U g mk q => by obtain ⟨q0, q1, qP, qK, qD⟩ := q; exact ⟨q0, q1, qP, va_K.moved (u := U) (U := U.calling g mk a) (Vm.Alike.refl U.vm) qK, qD⟩, va_recv hKc hPc (ci := 1) (q0 := 0) rfl rfl, fun U hU hW => ⟨rfl, by rw [hU], by rw [hU]; exact hPc, va_K.moved hW.alike hKc, hDc.weaken (fun _ _ _ _ => trivial)⟩⟩ rfl rfl hl.1 rfl (lv_room (Nat.le_of_ble_eq_true rfl)) dX1_swap_61 ⟨Nat.le_of_ble_eq_true rfl, Nat.le_of_ble_eq_true rfl⟩) hS (fun q _ h => hFc q h) hFc (fun u61 t H locs ht hvm w61 hB hz1 hk1 hS => ?_)
            try dsimp only at w61
            obtain ⟨F2, rfl, hO1, hO2⟩ := w61
            have hF9 := pm_cut (w := G0) hT (show a ≤ n by omega) (show n ≤ n by omega) hO1 hO2
            obtain ⟨hP1, hK1, hD1⟩ := hB
            rw [ht] at hP1
            obtain ⟨hP, hD⟩ := va_join (wr := []) (w1 := [(h0, .inr (1, [.ref q0, .ref q1, .ref q2, .int (nI (n - (n - a))), .int (nI k), .int d])), (q0, .inl (cA, 3000, .inl F2)), (q1, .inl (cB, 40, .inl G)), (q2, .inl (cC, 20, .inl E))]) hP hD [0, 1, 2, 3] [] rfl rfl (by decide) (by decide) hk1 hFc hP1 hD1
            have hP : va_P (dC, dI) vwCl [(h0, .inr (1, [.ref q0, .ref q1, .ref q2, .int (nI (n - (n - a))), .int (nI k), .int d])), (q0, .inl (cA, 3000, .inl F2)), (q1, .inl (cB, 40, .inl G)), (q2, .inl (cC, 20, .inl E))] H := hP
            have hD : va_D A [(h0, .inr (1, [.ref q0, .ref q1, .ref q2, .int (nI (n - (n - a))), .int (nI k), .int d])), (q0, .inl (cA, 3000, .inl F2)), (q1, .inl (cB, 40, .inl G)), (q2, .inl (cC, 20, .inl E))] := hD
            refine lv_aload_n hx hb dX1_swap_64 rfl (lv_at hl 1 rfl) ?_
            refine lv_iload_n hx hb dX1_swap_65 rfl (lv_at hl 2 rfl) ?_
            have hPc := hP.sub (ws' := [(h0, .inr (1, [.ref q0, .ref q1, .ref q2, .int (nI (n - (n - a))), .int (nI k), .int d])), (q0, .inl (cA, 3000, .inl F2)), (q1, .inl (cB, 40, .inl G)), (q2, .inl (cC, 20, .inl E))]) [0, 1, 2, 3] rfl
            have hDc := hD.sub (ws' := [(h0, .inr (1, [.ref q0, .ref q1, .ref q2, .int (nI (n - (n - a))), .int (nI k), .int d])), (q0, .inl (cA, 3000, .inl F2)), (q1, .inl (cB, 40, .inl G)), (q2, .inl (cC, 20, .inl E))]) [0, 1, 2, 3] (by decide) rfl
            have hKc := hK
            have hFc := va_free (wc := [(h0, .inr (1, [.ref q0, .ref q1, .ref q2, .int (nI (n - (n - a))), .int (nI k), .int d])), (q0, .inl (cA, 3000, .inl F2)), (q1, .inl (cB, 40, .inl G)), (q2, .inl (cC, 20, .inl E))]) hD hS hA [0, 1, 2, 3] rfl
            refine va_calli (va_runV (As := [.int (nI a)]) (rest := []) ⟨hx, hb, hml, hown, hts⟩ (c_M_putScrap l dC dI h0 q0 q1 q2 H.size (n - (n - a)) k cA cB cC F2 G (tl_rep T0 a n G0 0) G0 hF9 hG (by omega) hk E d a (by omega)) (cwV 1 hts (gV_ (fun w h => List.mem_cons_of_mem _ h) k315 k317 k17 k22 k318) rfl rfl rfl (by decide +kernel) ⟨Nat.le_of_ble_eq_true rfl, Nat.le_of_ble_eq_true rfl⟩) ⟨fun a U g mk q => by obtain ⟨q0, q1, qP, qK, qD⟩ := q; exact ⟨q0, q1, qP, va_K.moved (u := U) (U := U.calling g mk a) (Vm.Alike.refl U.vm) qK, qD⟩, va_recv hKc hPc (ci := 1) (q0 := 0) rfl rfl, fun U hU hW => ⟨rfl, by rw [hU], by rw [hU]; exact hPc, va_K.moved hW.alike hKc, hDc.weaken (fun _ _ _ _ => trivial)⟩⟩ rfl rfl hl.1 rfl (lv_room (Nat.le_of_ble_eq_true rfl)) dX1_swap_66 ⟨Nat.le_of_ble_eq_true rfl, Nat.le_of_ble_eq_true rfl⟩) hS (fun q _ h => hFc q h) hFc (fun r66 u66 t H locs ht hvm w66 hB hz1 hk1 hS => ?_)
            try dsimp only at w66
            obtain ⟨⟨n2, T2, k2, G2⟩, E3, d3⟩ := u66
            obtain ⟨hP1, hK1, hD1⟩ := hB
            rw [ht] at hP1
            obtain ⟨hP, hD⟩ := va_join (wr := []) (w1 := [(h0, .inr (1, [.ref q0, .ref q1, .ref q2, .int (nI n2), .int (nI k2), .int d3])), (q0, .inl (cA, 3000, .inl T2)), (q1, .inl (cB, 40, .inl G2)), (q2, .inl (cC, 20, .inl E3))]) hP hD [0, 1, 2, 3] [] rfl rfl (by decide) (by decide) hk1 hFc hP1 hD1
            have hP : va_P (dC, dI) vwCl [(h0, .inr (1, [.ref q0, .ref q1, .ref q2, .int (nI n2), .int (nI k2), .int d3])), (q0, .inl (cA, 3000, .inl T2)), (q1, .inl (cB, 40, .inl G2)), (q2, .inl (cC, 20, .inl E3))] H := hP
            have hD : va_D A [(h0, .inr (1, [.ref q0, .ref q1, .ref q2, .int (nI n2), .int (nI k2), .int d3])), (q0, .inl (cA, 3000, .inl T2)), (q1, .inl (cB, 40, .inl G2)), (q2, .inl (cC, 20, .inl E3))] := hD
            subst hQ
            exact W.iret (v := r66) hx hb hr (fun t ht hW => ⟨⟨r66, ((n2, T2, k2, G2), E3, d3), rfl, (by rw [show sp_swap (nI a) (nI b) n T0 k G0 = sp_put a n G0 k n T0 k G0 from (by unfold sp_swap; simp only [nI_clamp lta, nI_clamp ltb]; rw [if_pos (by omega), show min b n = n by omega]), pm_swap (by omega) (by omega) (by omega)]; exact w66), by rw [ht]; exact hP, va_K.moved hW.alike hK, hD⟩, hS.F ht⟩) hS.2.2 dX1_swap_69
          · skip
            have h52 := (not_congr (tl_le (show (nI ((n - (n - a)) + k)).toInt = (((n - (n - a)) + k : Nat) : Int) from (nI_toInt (by omega))) (show (nI 3000).toInt = (3000 : Int) from (by decide)))).mp h52
            refine lv_bipush (v := (-3 : Int32)) hx hb dX1_swap_55 (by decide) ?_
            subst hQ
            exact W.iret (v := (-3 : Int32)) hx hb hr (fun t ht hW => ⟨⟨(-3 : Int32), ((n, T, k, G), E, d), rfl, (by rw [show sp_swap (nI a) (nI b) n T0 k G0 = sp_put a n G0 k n T0 k G0 from (by unfold sp_swap; simp only [nI_clamp lta, nI_clamp ltb]; rw [if_pos (by omega), show min b n = n by omega])]; unfold sp_put; rw [if_neg (by omega)]; exact ⟨rfl, tE_mk hT hG hn hk⟩), by rw [ht]; exact hP, va_K.moved hW.alike hK, hD⟩, hS.F ht⟩) hS.2.2 dX1_swap_57
      · skip
        have h14 := (not_congr (tl_le (show x.toInt = x.toInt from rfl) (show y.toInt = y.toInt from rfl))).mp h14
        refine lv_iconst (v := (-1 : Int32)) hx hb dX1_swap_17 (by decide) ?_
        subst hQ
        exact W.iret (v := (-1 : Int32)) hx hb hr (fun t ht hW => ⟨⟨(-1 : Int32), ((n, T, k, G), E, d), rfl, (by rw [(show sp_swap x y n T0 k G0 = ((-1 : Int32), (n, T0, k, G0)) from (by unfold sp_swap; (repeat' split) <;> first | rfl | (exfalso; omega)))]; exact ⟨rfl, tE_mk hT hG hn hk⟩), by rw [ht]; exact hP, va_K.moved hW.alike hK, hD⟩, hS.F ht⟩) hS.2.2 dX1_swap_18
