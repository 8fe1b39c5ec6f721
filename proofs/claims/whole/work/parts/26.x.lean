set_option maxHeartbeats 4000000 in
set_option maxRecDepth 100000 in
theorem c_X_putWord (l : Launch) (dC : Nat → ClassId) (dI : Nat → Nat → Nat) (h0 q0 q1 sz n k : Nat) (cA cB : ClassId) (T G T0 G0 : Nat → Int32) (hT : ∀ j, j < n → T j = T0 j) (hG : ∀ j, j < k → G j = G0 j) (hn : n ≤ 3000) (hk : k ≤ 40) (a : Nat) (han : a ≤ n) (sa sv N : Nat) (f : Nat → Int32) (hN : N ≤ 5) (hch : tl_chr N f) : Met l yX0_putWord wsX0_putWord ({ frames := 4, cells := 0, slots := 0, locals := 85 } : Room) (va_Pc [.ref h0, .int (nI a), .ref sa] (fun U => U.heap.size = sz ∧ va_P (dC, dI) vwCl [(h0, .inr (0, [.ref q0, .ref q1, .int (nI n), .int (nI k)])), (q0, .inl (cA, 3000, .inl T)), (q1, .inl (cB, 40, .inl G))] U.heap ∧ va_K (dC, dI) vwCl [(cA, .int), (cB, .int)] U ∧ va_D (fun _ => True) [(h0, .inr (0, [.ref q0, .ref q1, .int (nI n), .int (nI k)])), (q0, .inl (cA, 3000, .inl T)), (q1, .inl (cB, 40, .inl G))] ∧ sK sa sv N f (va_A [(h0, .inr (0, [.ref q0, .ref q1, .int (nI n), .int (nI k)])), (q0, .inl (cA, 3000, .inl T)), (q1, .inl (cB, 40, .inl G))] sz) U U.heap)) (va_Qi (fun (r : Int32) (u : tS) => r = (sp_put a a f N n T0 k G0).1 ∧ tE u (sp_put a a f N n T0 k G0).2) (at_X dC dI (va_A [(h0, .inr (0, [.ref q0, .ref q1, .int (nI n), .int (nI k)])), (q0, .inl (cA, 3000, .inl T)), (q1, .inl (cB, 40, .inl G))] sz) h0 q0 q1 cA cB) (va_A [(h0, .inr (0, [.ref q0, .ref q1, .int (nI n), .int (nI k)])), (q0, .inl (cA, 3000, .inl T)), (q1, .inl (cB, 40, .inl G))] sz)) 0 0 (va_A [(h0, .inr (0, [.ref q0, .ref q1, .int (nI n), .int (nI k)])), (q0, .inl (cA, 3000, .inl T)), (q1, .inl (cB, 40, .inl G))] sz) := by
  refine Met.ofW (cc := cX0_putWord) (maxL := 5) (ret := (some .int)) (by decide) rfl ?_
  intro p e s m args below meth c s₁ B hml hv
  obtain ⟨rfl, hsz, hP, hK, hD0, hSK⟩ := hv
  have hx := B.exec
  have hb := B.bytes
  have hr := B.returns
  have hts := atoms_spec (ws := wsX0_putWord) B.pre
  have hown : s.vm.findClass RX0 = some m.cls := findClass_of_methodNamed B.named
  have hlocks := B.notSynchronized
  subst hsz
  have hD := hD0.self (sz := s.heap.size)
  generalize hAe : va_A [(h0, .inr (0, [.ref q0, .ref q1, .int (nI n), .int (nI k)])), (q0, .inl (cA, 3000, .inl T)), (q1, .inl (cB, 40, .inl G))] s.heap.size = A at hD hSK ⊢
  have hA : ∀ q : Nat, s.heap.size ≤ q → A q := fun q h => by rw [← hAe]; exact Or.inr h
  have hS : va_S A s.heap s.heap [] := va_S.rf
  have hP : va_P (dC, dI) vwCl [(h0, .inr (0, [.ref q0, .ref q1, .int (nI n), .int (nI k)])), (q0, .inl (cA, 3000, .inl T)), (q1, .inl (cB, 40, .inl G))] s.heap := hP
  have hinX0 : ∀ w ∈ u_ws RX0 TX0 4, w ∈ wsX0_putWord := fun w h => List.mem_cons_of_mem _ (inX0 w h)
  have hl := lv_entry ([.ref h0, .int (nI a), .ref sa]) (n := 5) (Nat.le_of_ble_eq_true rfl)
  rw [lg_entry_eq]
  generalize (lg_sl ([.ref h0, .int (nI a), .ref sa]) ++ List.replicate (5 - (lg_sl ([.ref h0, .int (nI a), .ref sa])).length) Slot.unset).toArray = ls at hl ⊢
  have hl : lv_has ls 5 [(0, .ref h0), (1, .int (nI a)), (2, .ref sa)] := hl
  refine tl_q (fun Q hQ => ?_)
  refine lv_aload_n hx hb dX0_putWord_0 rfl (lv_at hl 2 rfl) ?_
  refine vp_callSi ((va_runV (As := []) (rest := []) ⟨hx, hb, hml, hown, hts⟩ (c_J_length l sa sv N f (by omega)) (cwV 0 hts (gV_ (fun w h => List.mem_cons_of_mem _ h) k97 k98 k99 k25 k100) rfl rfl rfl (by decide +kernel) ⟨Nat.le_of_ble_eq_true rfl, Nat.le_of_ble_eq_true rfl⟩) ⟨fun a U g mk q => by obtain ⟨q0, qS⟩ := q; exact ⟨q0, sK_moved (u := U) (U := U.calling g mk a) (Vm.Alike.refl U.vm) qS⟩, va_Orecv hSK.1 hS, fun U hU hW => ⟨rfl, sK_at hSK hS (fun q h => h.elim) hW.alike hU⟩⟩ rfl rfl hl.1 rfl (lv_room (Nat.le_of_ble_eq_true rfl)) dX0_putWord_1 ⟨Nat.le_of_ble_eq_true rfl, Nat.le_of_ble_eq_true rfl⟩).run) (fun r1 w1 => ?_)
  try dsimp only at w1
  subst w1
  refine lv_istore_n (lv' := [(3, .int (nI N)), (0, .ref h0), (1, .int (nI a)), (2, .ref sa)]) hx hb dX0_putWord_4 rfl hl (by decide) rfl (fun ls hl => ?_)
  refine lv_aload_n hx hb dX0_putWord_5 rfl (lv_at hl 1 rfl) ?_
  refine lv_iload_n hx hb dX0_putWord_6 rfl (lv_at hl 0 rfl) ?_
  have ea7_0 : (nI N).toInt = ((N : Nat) : Int) := (nI_toInt (by omega))
  refine vp_callSi ((va_runV (As := [.int (nI N)]) (rest := []) ⟨hx, hb, hml, hown, hts⟩ (c_X_hasRoom l dC dI h0 q0 q1 n k cA cB T G T0 G0 hT hG hn hk (nI N) (by omega) (by omega)) (cwV 1 hts (gV_ (fun w h => List.mem_cons_of_mem _ h) k77 k79 k1 k21 k80) rfl rfl rfl (by decide +kernel) ⟨Nat.le_of_ble_eq_true rfl, Nat.le_of_ble_eq_true rfl⟩) ⟨fun a U g mk q => by obtain ⟨q0, qP, qK⟩ := q; exact ⟨q0, qP, va_K.moved (u := U) (U := U.calling g mk a) (Vm.Alike.refl U.vm) qK⟩, va_recv hK hP (ci := 0) (q0 := 0) rfl rfl, fun U hU hW => ⟨rfl, by rw [hU]; exact hP, va_K.moved hW.alike hK⟩⟩ rfl rfl hl.1 rfl (lv_room (Nat.le_of_ble_eq_true rfl)) dX0_putWord_7 ⟨Nat.le_of_ble_eq_true rfl, Nat.le_of_ble_eq_true rfl⟩).run) (fun r7 w7 => ?_)
  try dsimp only at w7
  refine lv_if_ne (tgt := 16) hx hb dX0_putWord_10 rfl (fun h10 => ?_) (fun h10 => ?_)
  · skip
    have h10 := (tl_b1 w7).mp h10
    refine lv_aload_n hx hb dX0_putWord_16 rfl (lv_at hl 1 rfl) ?_
    refine lv_iload_n hx hb dX0_putWord_17 rfl (lv_at hl 2 rfl) ?_
    refine lv_iload_n hx hb dX0_putWord_18 rfl (lv_at hl 2 rfl) ?_
    refine lv_iload_n hx hb dX0_putWord_19 rfl (lv_at hl 0 rfl) ?_
    have hPc := hP.sub (ws' := [(h0, .inr (0, [.ref q0, .ref q1, .int (nI n), .int (nI k)])), (q0, .inl (cA, 3000, .inl T)), (q1, .inl (cB, 40, .inl G))]) [0, 1, 2] rfl
    have hDc := hD.sub (ws' := [(h0, .inr (0, [.ref q0, .ref q1, .int (nI n), .int (nI k)])), (q0, .inl (cA, 3000, .inl T)), (q1, .inl (cB, 40, .inl G))]) [0, 1, 2] (by decide) rfl
    have hKc := hK
    have hFc := va_free (wc := [(h0, .inr (0, [.ref q0, .ref q1, .int (nI n), .int (nI k)])), (q0, .inl (cA, 3000, .inl T)), (q1, .inl (cB, 40, .inl G))]) hD hS hA [0, 1, 2] rfl
    refine va_callv (va_runV (As := [.int (nI a), .int (nI a), .int (nI N)]) (rest := []) ⟨hx, hb, hml, hown, hts⟩ (c_X_makeGap l dC dI h0 q0 q1 s.heap.size n k cA cB T G T0 G0 hT hG hn hk a a N (by omega) (by omega) (by omega)) (cwV 3 hts (gV_ (fun w h => List.mem_cons_of_mem _ h) k81 k83 k2 k21 k84) rfl rfl rfl (by decide +kernel) ⟨Nat.le_of_ble_eq_true rfl, Nat.le_of_ble_eq_true rfl⟩) ⟨fun a U g mk q => by obtain ⟨q0, q1, qP, qK, qD⟩ := q; exact ⟨q0, q1, qP, va_K.moved (u := U) (U := U.calling g mk a) (Vm.Alike.refl U.vm) qK, qD⟩, va_recv hKc hPc (ci := 0) (q0 := 0) rfl rfl, fun U hU hW => ⟨rfl, by rw [hU], by rw [hU]; exact hPc, va_K.moved hW.alike hKc, hDc.weaken (fun _ _ _ _ => trivial)⟩⟩ rfl rfl hl.1 rfl (lv_room (Nat.le_of_ble_eq_true rfl)) dX0_putWord_20 ⟨Nat.le_of_ble_eq_true rfl, Nat.le_of_ble_eq_true rfl⟩) hS (fun q _ h => hFc q h) hFc (fun u20 t H locs ht hvm w20 hB hz1 hk1 hS => ?_)
    try dsimp only at w20
    subst w20
    obtain ⟨hP1, hK1, hD1⟩ := hB
    rw [ht] at hP1
    obtain ⟨hP, hD⟩ := va_join (wr := []) (w1 := [(h0, .inr (0, [.ref q0, .ref q1, .int (nI (n - (a - a) + N)), .int (nI k)])), (q0, .inl (cA, 3000, .inl (va_cpy T T a (a + N) (n - a)))), (q1, .inl (cB, 40, .inl G))]) hP hD [0, 1, 2] [] rfl rfl (by decide) (by decide) hk1 hFc hP1 hD1
    have hP : va_P (dC, dI) vwCl [(h0, .inr (0, [.ref q0, .ref q1, .int (nI (n - (a - a) + N)), .int (nI k)])), (q0, .inl (cA, 3000, .inl (va_cpy T T a (a + N) (n - a)))), (q1, .inl (cB, 40, .inl G))] H := hP
    have hD : va_D A [(h0, .inr (0, [.ref q0, .ref q1, .int (nI (n - (a - a) + N)), .int (nI k)])), (q0, .inl (cA, 3000, .inl (va_cpy T T a (a + N) (n - a)))), (q1, .inl (cB, 40, .inl G))] := hD
    refine lv_iconst (v := nI 0) hx hb dX0_putWord_23 (by decide) ?_
    refine lv_istore (lv' := [(4, .int (nI 0)), (3, .int (nI N)), (0, .ref h0), (1, .int (nI a)), (2, .ref sa)]) hx hb dX0_putWord_24 hl (by decide) rfl (fun ls hl => ?_)
    have LP26 : ∀ (fu : Nat) (j : Nat) (F : Nat → Int32) (H : Heap) (locs : List Loc) (ls : Array Slot), N - j < fu → j ≤ N → (∀ i, i < n - (a - a) + N → (i < a + j ∨ a + N ≤ i) → F i = tl_rep T0 a a f N i) → lv_has ls 5 [(0, .ref h0), (1, .int (nI a)), (2, .ref sa), (3, .int (nI N)), (4, .int (nI j))] → va_P (dC, dI) vwCl [(h0, .inr (0, [.ref q0, .ref q1, .int (nI (n - (a - a) + N)), .int (nI k)])), (q0, .inl (cA, 3000, .inl F)), (q1, .inl (cB, 40, .inl G))] H → va_D A [(h0, .inr (0, [.ref q0, .ref q1, .int (nI (n - (a - a) + N)), .int (nI k)])), (q0, .inl (cA, 3000, .inl F)), (q1, .inl (cB, 40, .inl G))] → va_S A s.heap H locs → W p l e (headSpec wsX0_putWord ({ frames := 4, cells := 0, slots := 0, locals := 85 } : Room)).room s m ([.ref h0, .int (nI a), .ref sa] : List Value).toArray below meth c H locs 0 0 Q (F0 m 26 ls []) := by
      intro fu
      induction fu with
      | zero => intro j F H locs ls hfu; exact absurd hfu (Nat.not_lt_zero _)
      | succ fu ih =>
        intro j F H locs ls hfu hj hF hl hP hD hS
        refine lv_iload hx hb dX0_putWord_26 (lv_at hl 4 rfl) ?_
        refine lv_iload_n hx hb dX0_putWord_28 rfl (lv_at hl 3 rfl) ?_
        refine lv_icmp_ge (tgt := 53) hx hb dX0_putWord_29 rfl (fun h29 => ?_) (fun h29 => ?_)
        · skip
          have h29 := (tl_le (show (nI N).toInt = ((N : Nat) : Int) from (nI_toInt (by omega))) (show (nI j).toInt = ((j : Nat) : Int) from (nI_toInt (by omega)))).mp h29
          refine lv_aload_n hx hb dX0_putWord_53 rfl (lv_at hl 0 rfl) ?_
          refine va_get (D := (dC, dI)) (ci := 0) (v := .int (nI (n - (a - a) + N))) (C := RX0) (T := TX0) (N := 4) hx hb hts hinX0 hown hK hP 0 rfl rfl 2 (by decide) (hts _ (List.mem_cons_of_mem _ k39)) (fun _ h9 => h9) rfl dX0_putWord_54 ?_
          subst hQ
          exact W.iret (v := nI (n - (a - a) + N)) hx hb hr (fun t ht hW => ⟨⟨nI (n - (a - a) + N), (n - (a - a) + N, F, k, G), rfl, (by unfold sp_put; rw [if_pos (by omega)]; exact ⟨rfl, tE_mk (fun i hi => hF i hi (by omega)) hG (by omega) hk⟩), by rw [ht]; exact hP, va_K.moved hW.alike hK, hD⟩, hS.F ht⟩) hS.2.2 dX0_putWord_57
        · skip
          have h29 := (not_congr (tl_le (show (nI N).toInt = ((N : Nat) : Int) from (nI_toInt (by omega))) (show (nI j).toInt = ((j : Nat) : Int) from (nI_toInt (by omega))))).mp h29
          refine lv_aload_n hx hb dX0_putWord_32 rfl (lv_at hl 0 rfl) ?_
          refine va_get (D := (dC, dI)) (ci := 0) (v := .ref q0) (C := RX0) (T := TX0) (N := 4) hx hb hts hinX0 hown hK hP 0 rfl rfl 0 (by decide) (hts _ (List.mem_cons_of_mem _ k37)) (fun _ h9 => h9) rfl dX0_putWord_33 ?_
          refine lv_iload_n hx hb dX0_putWord_36 rfl (lv_at hl 1 rfl) ?_
          refine lv_iload hx hb dX0_putWord_37 (lv_at hl 4 rfl) ?_
          refine lv_iadd hx hb dX0_putWord_39 ?_
          refine tl_top (nI_add _ _) ?_
          refine lv_aload_n hx hb dX0_putWord_40 rfl (lv_at hl 2 rfl) ?_
          refine lv_iload hx hb dX0_putWord_41 (lv_at hl 4 rfl) ?_
          refine vp_callSi ((va_runV (As := [.int (nI j)]) (rest := [.int (nI (a + j)), .ref q0]) ⟨hx, hb, hml, hown, hts⟩ (c_J_charAt l sa sv N f (by omega) hch j (by omega)) (cwV 1 hts (gV_ (fun w h => List.mem_cons_of_mem _ h) k107 k108 k109 k25 k110) rfl rfl rfl (by decide +kernel) ⟨Nat.le_of_ble_eq_true rfl, Nat.le_of_ble_eq_true rfl⟩) ⟨fun a U g mk q => by obtain ⟨q0, qS⟩ := q; exact ⟨q0, sK_moved (u := U) (U := U.calling g mk a) (Vm.Alike.refl U.vm) qS⟩, va_Orecv hSK.1 hS, fun U hU hW => ⟨rfl, sK_at hSK hS (fun q h => h.elim) hW.alike hU⟩⟩ rfl rfl hl.1 rfl (lv_room (Nat.le_of_ble_eq_true rfl)) dX0_putWord_43 ⟨Nat.le_of_ble_eq_true rfl, Nat.le_of_ble_eq_true rfl⟩).run) (fun r43 w43 => ?_)
          try dsimp only at w43
          subst w43
          refine tl_iast hx hb hK hP hD hS 1 0 rfl rfl (by omega) (by decide) dX0_putWord_46 (fun H locs hP hD hS => ?_)
          have hP : va_P (dC, dI) vwCl [(h0, .inr (0, [.ref q0, .ref q1, .int (nI (n - (a - a) + N)), .int (nI k)])), (q0, .inl (cA, 3000, .inl (upd F (a + j) (f j)))), (q1, .inl (cB, 40, .inl G))] H := hP
          have hD : va_D A [(h0, .inr (0, [.ref q0, .ref q1, .int (nI (n - (a - a) + N)), .int (nI k)])), (q0, .inl (cA, 3000, .inl (upd F (a + j) (f j)))), (q1, .inl (cB, 40, .inl G))] := hD
          refine lv_iinc (lv' := [(4, .int (nI (j + 1))), (0, .ref h0), (1, .int (nI a)), (2, .ref sa), (3, .int (nI N))]) (k := 4) (v := nI (j + 1)) hx hb dX0_putWord_47 hl rfl (tl_inc1 _) (by decide) rfl (fun ls hl => ?_)
          refine lv_goto (tgt := 26) hx hb dX0_putWord_50 rfl ?_
          exact ih (j + 1) (upd F (a + j) (f j)) _ _ ls (by omega) (by omega) (pu_puts (by omega) hF) (lv_sub hl [1, 2, 3, 4, 0] rfl) hP hD hS
    exact LP26 _ 0 (va_cpy T T a (a + N) (n - a)) _ _ ls (Nat.lt_succ_self _) (by omega) (fun i hi h => pu_gap hT han i hi (by omega)) (lv_sub hl [2, 3, 4, 1, 0] rfl) hP hD hS
  · skip
    have h10 := (tl_b0 w7).mp h10
    refine lv_bipush (v := (-3 : Int32)) hx hb dX0_putWord_13 (by decide) ?_
    subst hQ
    exact W.iret (v := (-3 : Int32)) hx hb hr (fun t ht hW => ⟨⟨(-3 : Int32), (n, T, k, G), rfl, (by unfold sp_put; rw [if_neg (by omega)]; exact ⟨rfl, tE_mk hT hG hn hk⟩), by rw [ht]; exact hP, va_K.moved hW.alike hK, hD⟩, hS.F ht⟩) hS.2.2 dX0_putWord_15
set_option maxHeartbeats 4000000 in
set_option maxRecDepth 100000 in
theorem c_X_add (l : Launch) (dC : Nat → ClassId) (dI : Nat → Nat → Nat) (h0 q0 q1 sz n k : Nat) (cA cB : ClassId) (T G T0 G0 : Nat → Int32) (hT : ∀ j, j < n → T j = T0 j) (hG : ∀ j, j < k → G j = G0 j) (hn : n ≤ 3000) (hk : k ≤ 40) (x : Int32) (y : Int64) (aF vF aT vT : Nat) : Met l yX0_add wsX0_add ({ frames := 5, cells := 0, slots := 0, locals := 109 } : Room) (va_Pc [.ref h0, .int x, .long y] (fun U => U.heap.size = sz ∧ va_P (dC, dI) vwCl [(h0, .inr (0, [.ref q0, .ref q1, .int (nI n), .int (nI k)])), (q0, .inl (cA, 3000, .inl T)), (q1, .inl (cB, 40, .inl G))] U.heap ∧ va_K (dC, dI) vwCl [(cA, .int), (cB, .int)] U ∧ va_D (fun _ => True) [(h0, .inr (0, [.ref q0, .ref q1, .int (nI n), .int (nI k)])), (q0, .inl (cA, 3000, .inl T)), (q1, .inl (cB, 40, .inl G))] ∧ (vk_R RX0 31 "false" aF U ∧ vk_R RX0 33 "true" aT U) ∧ sK aF vF 5 tl_no (va_A [(h0, .inr (0, [.ref q0, .ref q1, .int (nI n), .int (nI k)])), (q0, .inl (cA, 3000, .inl T)), (q1, .inl (cB, 40, .inl G))] sz) U U.heap ∧ sK aT vT 4 tl_yes (va_A [(h0, .inr (0, [.ref q0, .ref q1, .int (nI n), .int (nI k)])), (q0, .inl (cA, 3000, .inl T)), (q1, .inl (cB, 40, .inl G))] sz) U U.heap)) (va_Qi (fun (r : Int32) (u : tS) => r = (sp_add x y n T0 k G0).1 ∧ tE u (sp_add x y n T0 k G0).2) (at_X dC dI (va_A [(h0, .inr (0, [.ref q0, .ref q1, .int (nI n), .int (nI k)])), (q0, .inl (cA, 3000, .inl T)), (q1, .inl (cB, 40, .inl G))] sz) h0 q0 q1 cA cB) (va_A [(h0, .inr (0, [.ref q0, .ref q1, .int (nI n), .int (nI k)])), (q0, .inl (cA, 3000, .inl T)), (q1, .inl (cB, 40, .inl G))] sz)) 0 0 (va_A [(h0, .inr (0, [.ref q0, .ref q1, .int (nI n), .int (nI k)])), (q0, .inl (cA, 3000, .inl T)), (q1, .inl (cB, 40, .inl G))] sz) := by
  refine Met.ofW (cc := cX0_add) (maxL := 4) (ret := (some .int)) (by decide) rfl ?_
  intro p e s m args below meth c s₁ B hml hv
  obtain ⟨rfl, hsz, hP, hK, hD0, hR, hKF, hKT⟩ := hv
  have hx := B.exec
  have hb := B.bytes
  have hr := B.returns
  have hts := atoms_spec (ws := wsX0_add) B.pre
  have hown : s.vm.findClass RX0 = some m.cls := findClass_of_methodNamed B.named
  have hlocks := B.notSynchronized
  subst hsz
  have hD := hD0.self (sz := s.heap.size)
  generalize hAe : va_A [(h0, .inr (0, [.ref q0, .ref q1, .int (nI n), .int (nI k)])), (q0, .inl (cA, 3000, .inl T)), (q1, .inl (cB, 40, .inl G))] s.heap.size = A at hD hKF hKT ⊢
  have hA : ∀ q : Nat, s.heap.size ≤ q → A q := fun q h => by rw [← hAe]; exact Or.inr h
  have hS : va_S A s.heap s.heap [] := va_S.rf
  have hP : va_P (dC, dI) vwCl [(h0, .inr (0, [.ref q0, .ref q1, .int (nI n), .int (nI k)])), (q0, .inl (cA, 3000, .inl T)), (q1, .inl (cB, 40, .inl G))] s.heap := hP
  have hinX0 : ∀ w ∈ u_ws RX0 TX0 4, w ∈ wsX0_add := fun w h => List.mem_cons_of_mem _ (inX0 w h)
  have hl := lv_entry ([.ref h0, .int x, .long y]) (n := 4) (Nat.le_of_ble_eq_true rfl)
  rw [lg_entry_eq]
  generalize (lg_sl ([.ref h0, .int x, .long y]) ++ List.replicate (4 - (lg_sl ([.ref h0, .int x, .long y])).length) Slot.unset).toArray = ls at hl ⊢
  have hl : lv_has ls 4 [(0, .ref h0), (1, .int x), (2, .long y)] := hl
  refine tl_q (fun Q hQ => ?_)
  refine lv_iload_n hx hb dX0_add_0 rfl (lv_at hl 1 rfl) ?_
  have sw1 : x.toInt = x.toInt := rfl
  by_cases hs1_0 : x.toInt = 0
  · skip
    refine lv_tableIn (off := 31) (tgt := 32) hx hb dX0_add_1 (by omega) (by omega) (by rw [sw1, hs1_0]; first | done | rfl) rfl ?_
    refine lv_aload_n hx hb dX0_add_32 rfl (lv_at hl 0 rfl) ?_
    refine lv_aload_n hx hb dX0_add_33 rfl (lv_at hl 0 rfl) ?_
    refine va_get (D := (dC, dI)) (ci := 0) (v := .int (nI n)) (C := RX0) (T := TX0) (N := 4) hx hb hts hinX0 hown hK hP 0 rfl rfl 2 (by decide) (hts _ (List.mem_cons_of_mem _ k39)) (fun _ h9 => h9) rfl dX0_add_34 ?_
    refine lv_lload_n hx hb dX0_add_37 rfl (lv_at hl 2 rfl) ?_
    have hPc := hP.sub (ws' := [(h0, .inr (0, [.ref q0, .ref q1, .int (nI n), .int (nI k)])), (q0, .inl (cA, 3000, .inl T)), (q1, .inl (cB, 40, .inl G))]) [0, 1, 2] rfl
    have hDc := hD.sub (ws' := [(h0, .inr (0, [.ref q0, .ref q1, .int (nI n), .int (nI k)])), (q0, .inl (cA, 3000, .inl T)), (q1, .inl (cB, 40, .inl G))]) [0, 1, 2] (by decide) rfl
    have hKc := hK
    have hFc := va_free (wc := [(h0, .inr (0, [.ref q0, .ref q1, .int (nI n), .int (nI k)])), (q0, .inl (cA, 3000, .inl T)), (q1, .inl (cB, 40, .inl G))]) hD hS hA [0, 1, 2] rfl
    refine va_calli (va_runV (As := [.int (nI n), .long y]) (rest := []) ⟨hx, hb, hml, hown, hts⟩ (c_X_putDigits l dC dI h0 q0 q1 s.heap.size n k cA cB T G T0 G0 hT hG hn hk n y (by omega)) (cwV 2 hts (gV_ (fun w h => List.mem_cons_of_mem _ h) k69 k71 k0 k21 k72) rfl rfl rfl (by decide +kernel) ⟨Nat.le_of_ble_eq_true rfl, Nat.le_of_ble_eq_true rfl⟩) ⟨fun a U g mk q => by obtain ⟨q0, q1, qP, qK, qD⟩ := q; exact ⟨q0, q1, qP, va_K.moved (u := U) (U := U.calling g mk a) (Vm.Alike.refl U.vm) qK, qD⟩, va_recv hKc hPc (ci := 0) (q0 := 0) rfl rfl, fun U hU hW => ⟨rfl, by rw [hU], by rw [hU]; exact hPc, va_K.moved hW.alike hKc, hDc.weaken (fun _ _ _ _ => trivial)⟩⟩ rfl rfl hl.1 rfl (lv_room (Nat.le_of_ble_eq_true rfl)) dX0_add_38 ⟨Nat.le_of_ble_eq_true rfl, Nat.le_of_ble_eq_true rfl⟩) hS (fun q _ h => hFc q h) hFc (fun r38 u38 t H locs ht hvm w38 hB hz1 hk1 hS => ?_)
    try dsimp only at w38
    obtain ⟨n2, T2, k2, G2⟩ := u38
    obtain ⟨hP1, hK1, hD1⟩ := hB
    rw [ht] at hP1
    obtain ⟨hP, hD⟩ := va_join (wr := []) (w1 := [(h0, .inr (0, [.ref q0, .ref q1, .int (nI n2), .int (nI k2)])), (q0, .inl (cA, 3000, .inl T2)), (q1, .inl (cB, 40, .inl G2))]) hP hD [0, 1, 2] [] rfl rfl (by decide) (by decide) hk1 hFc hP1 hD1
    have hP : va_P (dC, dI) vwCl [(h0, .inr (0, [.ref q0, .ref q1, .int (nI n2), .int (nI k2)])), (q0, .inl (cA, 3000, .inl T2)), (q1, .inl (cB, 40, .inl G2))] H := hP
    have hD : va_D A [(h0, .inr (0, [.ref q0, .ref q1, .int (nI n2), .int (nI k2)])), (q0, .inl (cA, 3000, .inl T2)), (q1, .inl (cB, 40, .inl G2))] := hD
    subst hQ
    exact W.iret (v := r38) hx hb hr (fun t ht hW => ⟨⟨r38, (n2, T2, k2, G2), rfl, (by rw [show sp_add x y n T0 k G0 = sp_put n n (dg_w y) (dg_m y) n T0 k G0 from (by unfold sp_add; (repeat' split) <;> first | rfl | (exfalso; omega))]; exact w38), by rw [ht]; exact hP, va_K.moved hW.alike hK, hD⟩, hS.F ht⟩) hS.2.2 dX0_add_41
  by_cases hs1_1 : x.toInt = 1
  · skip
    refine lv_tableIn (off := 41) (tgt := 42) hx hb dX0_add_1 (by omega) (by omega) (by rw [sw1, hs1_1]; first | done | rfl) rfl ?_
    refine lv_aload_n hx hb dX0_add_42 rfl (lv_at hl 0 rfl) ?_
    refine lv_aload_n hx hb dX0_add_43 rfl (lv_at hl 0 rfl) ?_
    refine va_get (D := (dC, dI)) (ci := 0) (v := .int (nI n)) (C := RX0) (T := TX0) (N := 4) hx hb hts hinX0 hown hK hP 0 rfl rfl 2 (by decide) (hts _ (List.mem_cons_of_mem _ k39)) (fun _ h9 => h9) rfl dX0_add_44 ?_
    refine lv_lload_n hx hb dX0_add_47 rfl (lv_at hl 2 rfl) ?_
    refine lv_lconst (v := (0 : Int64)) hx hb dX0_add_48 (by decide) ?_
    refine W.lcmp hx hb dX0_add_49 ?_
    refine lv_if_ne (tgt := 58) hx hb dX0_add_50 rfl (fun h50 => ?_) (fun h50 => ?_)
    · skip
      have h50 := (not_congr (tl_leq (show y.toInt = y.toInt from rfl) (show ((0 : Int64)).toInt = (0 : Int) from (by decide)))).mp h50
      refine va_ldcS hx hb hown hR.2 dX0_add_58 ?_
      have hPc := hP.sub (ws' := [(h0, .inr (0, [.ref q0, .ref q1, .int (nI n), .int (nI k)])), (q0, .inl (cA, 3000, .inl T)), (q1, .inl (cB, 40, .inl G))]) [0, 1, 2] rfl
      have hDc := hD.sub (ws' := [(h0, .inr (0, [.ref q0, .ref q1, .int (nI n), .int (nI k)])), (q0, .inl (cA, 3000, .inl T)), (q1, .inl (cB, 40, .inl G))]) [0, 1, 2] (by decide) rfl
      have hKc := hK
      have hFc := va_free (wc := [(h0, .inr (0, [.ref q0, .ref q1, .int (nI n), .int (nI k)])), (q0, .inl (cA, 3000, .inl T)), (q1, .inl (cB, 40, .inl G))]) hD hS hA [0, 1, 2] rfl
      refine va_calli (va_runV (As := [.int (nI n), .ref aT]) (rest := []) ⟨hx, hb, hml, hown, hts⟩ (c_X_putWord l dC dI h0 q0 q1 s.heap.size n k cA cB T G T0 G0 hT hG hn hk n (by omega) aT vT 4 tl_yes (by omega) tl_chr_yes) (cwV 2 hts (gV_ (fun w h => List.mem_cons_of_mem _ h) k93 k95 k3 k21 k96) rfl rfl rfl (by decide +kernel) ⟨Nat.le_of_ble_eq_true rfl, Nat.le_of_ble_eq_true rfl⟩) ⟨fun a U g mk q => by obtain ⟨q0, q1, qP, qK, qD, qS⟩ := q; exact ⟨q0, q1, qP, va_K.moved (u := U) (U := U.calling g mk a) (Vm.Alike.refl U.vm) qK, qD, sK_moved (u := U) (U := U.calling g mk a) (Vm.Alike.refl U.vm) qS⟩, va_recv hKc hPc (ci := 0) (q0 := 0) rfl rfl, fun U hU hW => ⟨rfl, by rw [hU], by rw [hU]; exact hPc, va_K.moved hW.alike hKc, hDc.weaken (fun _ _ _ _ => trivial), sK_at hKT hS (fun q h => hFc q h) hW.alike hU⟩⟩ rfl rfl hl.1 rfl (lv_room (Nat.le_of_ble_eq_true rfl)) dX0_add_60 ⟨Nat.le_of_ble_eq_true rfl, Nat.le_of_ble_eq_true rfl⟩) hS (fun q _ h => hFc q h) hFc (fun r60 u60 t H locs ht hvm w60 hB hz1 hk1 hS => ?_)
      try dsimp only at w60
      obtain ⟨n2, T2, k2, G2⟩ := u60
      obtain ⟨hP1, hK1, hD1⟩ := hB
      rw [ht] at hP1
      obtain ⟨hP, hD⟩ := va_join (wr := []) (w1 := [(h0, .inr (0, [.ref q0, .ref q1, .int (nI n2), .int (nI k2)])), (q0, .inl (cA, 3000, .inl T2)), (q1, .inl (cB, 40, .inl G2))]) hP hD [0, 1, 2] [] rfl rfl (by decide) (by decide) hk1 hFc hP1 hD1
      have hP : va_P (dC, dI) vwCl [(h0, .inr (0, [.ref q0, .ref q1, .int (nI n2), .int (nI k2)])), (q0, .inl (cA, 3000, .inl T2)), (q1, .inl (cB, 40, .inl G2))] H := hP
      have hD : va_D A [(h0, .inr (0, [.ref q0, .ref q1, .int (nI n2), .int (nI k2)])), (q0, .inl (cA, 3000, .inl T2)), (q1, .inl (cB, 40, .inl G2))] := hD
      subst hQ
      exact W.iret (v := r60) hx hb hr (fun t ht hW => ⟨⟨r60, (n2, T2, k2, G2), rfl, (by rw [show sp_add x y n T0 k G0 = sp_put n n tl_yes 4 n T0 k G0 from (by unfold sp_add; (repeat' split) <;> first | rfl | (exfalso; omega))]; exact w60), by rw [ht]; exact hP, va_K.moved hW.alike hK, hD⟩, hS.F ht⟩) hS.2.2 dX0_add_63
    · skip
      have h50 := (tl_leq (show y.toInt = y.toInt from rfl) (show ((0 : Int64)).toInt = (0 : Int) from (by decide))).mp h50
      refine va_ldcS hx hb hown hR.1 dX0_add_53 ?_
      refine lv_goto (tgt := 60) hx hb dX0_add_55 rfl ?_
      have hPc := hP.sub (ws' := [(h0, .inr (0, [.ref q0, .ref q1, .int (nI n), .int (nI k)])), (q0, .inl (cA, 3000, .inl T)), (q1, .inl (cB, 40, .inl G))]) [0, 1, 2] rfl
      have hDc := hD.sub (ws' := [(h0, .inr (0, [.ref q0, .ref q1, .int (nI n), .int (nI k)])), (q0, .inl (cA, 3000, .inl T)), (q1, .inl (cB, 40, .inl G))]) [0, 1, 2] (by decide) rfl
      have hKc := hK
      have hFc := va_free (wc := [(h0, .inr (0, [.ref q0, .ref q1, .int (nI n), .int (nI k)])), (q0, .inl (cA, 3000, .inl T)), (q1, .inl (cB, 40, .inl G))]) hD hS hA [0, 1, 2] rfl
      refine va_calli (va_runV (As := [.int (nI n), .ref aF]) (rest := []) ⟨hx, hb, hml, hown, hts⟩ (c_X_putWord l dC dI h0 q0 q1 s.heap.size n k cA cB T G T0 G0 hT hG hn hk n (by omega) aF vF 5 tl_no (by omega) tl_chr_no) (cwV 2 hts (gV_ (fun w h => List.mem_cons_of_mem _ h) k93 k95 k3 k21 k96) rfl rfl rfl (by decide +kernel) ⟨Nat.le_of_ble_eq_true rfl, Nat.le_of_ble_eq_true rfl⟩) ⟨fun a U g mk q => by obtain ⟨q0, q1, qP, qK, qD, qS⟩ := q; exact ⟨q0, q1, qP, va_K.moved (u := U) (U := U.calling g mk a) (Vm.Alike.refl U.vm) qK, qD, sK_moved (u := U) (U := U.calling g mk a) (Vm.Alike.refl U.vm) qS⟩, va_recv hKc hPc (ci := 0) (q0 := 0) rfl rfl, fun U hU hW => ⟨rfl, by rw [hU], by rw [hU]; exact hPc, va_K.moved hW.alike hKc, hDc.weaken (fun _ _ _ _ => trivial), sK_at hKF hS (fun q h => hFc q h) hW.alike hU⟩⟩ rfl rfl hl.1 rfl (lv_room (Nat.le_of_ble_eq_true rfl)) dX0_add_60 ⟨Nat.le_of_ble_eq_true rfl, Nat.le_of_ble_eq_true rfl⟩) hS (fun q _ h => hFc q h) hFc (fun r60 u60 t H locs ht hvm w60 hB hz1 hk1 hS => ?_)
      try dsimp only at w60
      obtain ⟨n2, T2, k2, G2⟩ := u60
      obtain ⟨hP1, hK1, hD1⟩ := hB
      rw [ht] at hP1
      obtain ⟨hP, hD⟩ := va_join (wr := []) (w1 := [(h0, .inr (0, [.ref q0, .ref q1, .int (nI n2), .int (nI k2)])), (q0, .inl (cA, 3000, .inl T2)), (q1, .inl (cB, 40, .inl G2))]) hP hD [0, 1, 2] [] rfl rfl (by decide) (by decide) hk1 hFc hP1 hD1
      have hP : va_P (dC, dI) vwCl [(h0, .inr (0, [.ref q0, .ref q1, .int (nI n2), .int (nI k2)])), (q0, .inl (cA, 3000, .inl T2)), (q1, .inl (cB, 40, .inl G2))] H := hP
      have hD : va_D A [(h0, .inr (0, [.ref q0, .ref q1, .int (nI n2), .int (nI k2)])), (q0, .inl (cA, 3000, .inl T2)), (q1, .inl (cB, 40, .inl G2))] := hD
      subst hQ
      exact W.iret (v := r60) hx hb hr (fun t ht hW => ⟨⟨r60, (n2, T2, k2, G2), rfl, (by rw [show sp_add x y n T0 k G0 = sp_put n n tl_no 5 n T0 k G0 from (by unfold sp_add; (repeat' split) <;> first | rfl | (exfalso; omega))]; exact w60), by rw [ht]; exact hP, va_K.moved hW.alike hK, hD⟩, hS.F ht⟩) hS.2.2 dX0_add_63
  by_cases hs1_2 : x.toInt = 2
  · skip
    refine lv_tableIn (off := 63) (tgt := 64) hx hb dX0_add_1 (by omega) (by omega) (by rw [sw1, hs1_2]; first | done | rfl) rfl ?_
    refine lv_aload_n hx hb dX0_add_64 rfl (lv_at hl 0 rfl) ?_
    refine lv_aload_n hx hb dX0_add_65 rfl (lv_at hl 0 rfl) ?_
    refine va_get (D := (dC, dI)) (ci := 0) (v := .int (nI n)) (C := RX0) (T := TX0) (N := 4) hx hb hts hinX0 hown hK hP 0 rfl rfl 2 (by decide) (hts _ (List.mem_cons_of_mem _ k39)) (fun _ h9 => h9) rfl dX0_add_66 ?_
    refine lv_aload_n hx hb dX0_add_69 rfl (lv_at hl 0 rfl) ?_
    refine va_get (D := (dC, dI)) (ci := 0) (v := .int (nI n)) (C := RX0) (T := TX0) (N := 4) hx hb hts hinX0 hown hK hP 0 rfl rfl 2 (by decide) (hts _ (List.mem_cons_of_mem _ k39)) (fun _ h9 => h9) rfl dX0_add_70 ?_
    have hPc := hP.sub (ws' := [(h0, .inr (0, [.ref q0, .ref q1, .int (nI n), .int (nI k)])), (q0, .inl (cA, 3000, .inl T)), (q1, .inl (cB, 40, .inl G))]) [0, 1, 2] rfl
    have hDc := hD.sub (ws' := [(h0, .inr (0, [.ref q0, .ref q1, .int (nI n), .int (nI k)])), (q0, .inl (cA, 3000, .inl T)), (q1, .inl (cB, 40, .inl G))]) [0, 1, 2] (by decide) rfl
    have hKc := hK
    have hFc := va_free (wc := [(h0, .inr (0, [.ref q0, .ref q1, .int (nI n), .int (nI k)])), (q0, .inl (cA, 3000, .inl T)), (q1, .inl (cB, 40, .inl G))]) hD hS hA [0, 1, 2] rfl
    refine va_calli (va_runV (As := [.int (nI n), .int (nI n)]) (rest := []) ⟨hx, hb, hml, hown, hts⟩ (c_X_putScrap l dC dI h0 q0 q1 s.heap.size n k cA cB T G T0 G0 hT hG hn hk n n (by omega) (by omega)) (cwV 2 hts (gV_ (fun w h => List.mem_cons_of_mem _ h) k145 k147 k4 k21 k148) rfl rfl rfl (by decide +kernel) ⟨Nat.le_of_ble_eq_true rfl, Nat.le_of_ble_eq_true rfl⟩) ⟨fun a U g mk q => by obtain ⟨q0, q1, qP, qK, qD⟩ := q; exact ⟨q0, q1, qP, va_K.moved (u := U) (U := U.calling g mk a) (Vm.Alike.refl U.vm) qK, qD⟩, va_recv hKc hPc (ci := 0) (q0 := 0) rfl rfl, fun U hU hW => ⟨rfl, by rw [hU], by rw [hU]; exact hPc, va_K.moved hW.alike hKc, hDc.weaken (fun _ _ _ _ => trivial)⟩⟩ rfl rfl hl.1 rfl (lv_room (Nat.le_of_ble_eq_true rfl)) dX0_add_73 ⟨Nat.le_of_ble_eq_true rfl, Nat.le_of_ble_eq_true rfl⟩) hS (fun q _ h => hFc q h) hFc (fun r73 u73 t H locs ht hvm w73 hB hz1 hk1 hS => ?_)
    try dsimp only at w73
    obtain ⟨n2, T2, k2, G2⟩ := u73
    obtain ⟨hP1, hK1, hD1⟩ := hB
    rw [ht] at hP1
    obtain ⟨hP, hD⟩ := va_join (wr := []) (w1 := [(h0, .inr (0, [.ref q0, .ref q1, .int (nI n2), .int (nI k2)])), (q0, .inl (cA, 3000, .inl T2)), (q1, .inl (cB, 40, .inl G2))]) hP hD [0, 1, 2] [] rfl rfl (by decide) (by decide) hk1 hFc hP1 hD1
    have hP : va_P (dC, dI) vwCl [(h0, .inr (0, [.ref q0, .ref q1, .int (nI n2), .int (nI k2)])), (q0, .inl (cA, 3000, .inl T2)), (q1, .inl (cB, 40, .inl G2))] H := hP
    have hD : va_D A [(h0, .inr (0, [.ref q0, .ref q1, .int (nI n2), .int (nI k2)])), (q0, .inl (cA, 3000, .inl T2)), (q1, .inl (cB, 40, .inl G2))] := hD
    subst hQ
    exact W.iret (v := r73) hx hb hr (fun t ht hW => ⟨⟨r73, (n2, T2, k2, G2), rfl, (by rw [show sp_add x y n T0 k G0 = sp_put n n G0 k n T0 k G0 from (by unfold sp_add; (repeat' split) <;> first | rfl | (exfalso; omega))]; exact w73), by rw [ht]; exact hP, va_K.moved hW.alike hK, hD⟩, hS.F ht⟩) hS.2.2 dX0_add_76
  by_cases hs1_3 : x.toInt = 3
  · skip
    refine lv_tableIn (off := 76) (tgt := 77) hx hb dX0_add_1 (by omega) (by omega) (by rw [sw1, hs1_3]; first | done | rfl) rfl ?_
    refine lv_lload_n hx hb dX0_add_77 rfl (lv_at hl 2 rfl) ?_
    refine vp_callSi ((va_runS (As := [.long y]) (rest := []) ⟨hx, hb, hml, hown, hts⟩ (c_X_isSign l y) (va_cwS 1 hts (gS_ (fun w h => List.mem_cons_of_mem _ h) k55 k56 k21 k57) rfl rfl rfl (by decide +kernel) ⟨Nat.le_of_ble_eq_true rfl, Nat.le_of_ble_eq_true rfl⟩) ⟨fun a U g mk q => q, fun U hU hW => ⟨rfl, trivial⟩⟩ rfl rfl hl.1 rfl (lv_room (Nat.le_of_ble_eq_true rfl)) dX0_add_78 ⟨Nat.le_of_ble_eq_true rfl, Nat.le_of_ble_eq_true rfl⟩).run) (fun r78 w78 => ?_)
    try dsimp only at w78
    refine lv_if_eq (tgt := 97) hx hb dX0_add_81 rfl (fun h81 => ?_) (fun h81 => ?_)
    · skip
      have h81 := (tl_b0 w78).mp h81
      refine lv_iconst (v := (-1 : Int32)) hx hb dX0_add_97 (by decide) ?_
      subst hQ
      exact W.iret (v := (-1 : Int32)) hx hb hr (fun t ht hW => ⟨⟨(-1 : Int32), (n, T, k, G), rfl, (by rw [(show sp_add x y n T0 k G0 = ((-1 : Int32), (n, T0, k, G0)) from (by unfold sp_add; (repeat' split) <;> first | rfl | (exfalso; omega)))]; exact ⟨rfl, tE_mk hT hG hn hk⟩), by rw [ht]; exact hP, va_K.moved hW.alike hK, hD⟩, hS.F ht⟩) hS.2.2 dX0_add_98
    · skip
      have h81 := (tl_b1 w78).mp h81
      refine lv_aload_n hx hb dX0_add_84 rfl (lv_at hl 0 rfl) ?_
      refine lv_aload_n hx hb dX0_add_85 rfl (lv_at hl 0 rfl) ?_
      refine va_get (D := (dC, dI)) (ci := 0) (v := .int (nI n)) (C := RX0) (T := TX0) (N := 4) hx hb hts hinX0 hown hK hP 0 rfl rfl 2 (by decide) (hts _ (List.mem_cons_of_mem _ k39)) (fun _ h9 => h9) rfl dX0_add_86 ?_
      refine lv_lload_n hx hb dX0_add_89 rfl (lv_at hl 2 rfl) ?_
      refine lv_l2i hx hb dX0_add_90 rfl ?_
      have hPc := hP.sub (ws' := [(h0, .inr (0, [.ref q0, .ref q1, .int (nI n), .int (nI k)])), (q0, .inl (cA, 3000, .inl T)), (q1, .inl (cB, 40, .inl G))]) [0, 1, 2] rfl
      have hDc := hD.sub (ws' := [(h0, .inr (0, [.ref q0, .ref q1, .int (nI n), .int (nI k)])), (q0, .inl (cA, 3000, .inl T)), (q1, .inl (cB, 40, .inl G))]) [0, 1, 2] (by decide) rfl
      have hKc := hK
      have hFc := va_free (wc := [(h0, .inr (0, [.ref q0, .ref q1, .int (nI n), .int (nI k)])), (q0, .inl (cA, 3000, .inl T)), (q1, .inl (cB, 40, .inl G))]) hD hS hA [0, 1, 2] rfl
      refine va_calli (va_runV (As := [.int (nI n), .int y.toInt32]) (rest := []) ⟨hx, hb, hml, hown, hts⟩ (c_X_putSign l dC dI h0 q0 q1 s.heap.size n k cA cB T G T0 G0 hT hG hn hk n y.toInt32 (by omega)) (cwV 2 hts (gV_ (fun w h => List.mem_cons_of_mem _ h) k149 k151 k5 k21 k152) rfl rfl rfl (by decide +kernel) ⟨Nat.le_of_ble_eq_true rfl, Nat.le_of_ble_eq_true rfl⟩) ⟨fun a U g mk q => by obtain ⟨q0, q1, qP, qK, qD⟩ := q; exact ⟨q0, q1, qP, va_K.moved (u := U) (U := U.calling g mk a) (Vm.Alike.refl U.vm) qK, qD⟩, va_recv hKc hPc (ci := 0) (q0 := 0) rfl rfl, fun U hU hW => ⟨rfl, by rw [hU], by rw [hU]; exact hPc, va_K.moved hW.alike hKc, hDc.weaken (fun _ _ _ _ => trivial)⟩⟩ rfl rfl hl.1 rfl (lv_room (Nat.le_of_ble_eq_true rfl)) dX0_add_91 ⟨Nat.le_of_ble_eq_true rfl, Nat.le_of_ble_eq_true rfl⟩) hS (fun q _ h => hFc q h) hFc (fun r91 u91 t H locs ht hvm w91 hB hz1 hk1 hS => ?_)
      try dsimp only at w91
      obtain ⟨n2, T2, k2, G2⟩ := u91
      obtain ⟨hP1, hK1, hD1⟩ := hB
      rw [ht] at hP1
      obtain ⟨hP, hD⟩ := va_join (wr := []) (w1 := [(h0, .inr (0, [.ref q0, .ref q1, .int (nI n2), .int (nI k2)])), (q0, .inl (cA, 3000, .inl T2)), (q1, .inl (cB, 40, .inl G2))]) hP hD [0, 1, 2] [] rfl rfl (by decide) (by decide) hk1 hFc hP1 hD1
      have hP : va_P (dC, dI) vwCl [(h0, .inr (0, [.ref q0, .ref q1, .int (nI n2), .int (nI k2)])), (q0, .inl (cA, 3000, .inl T2)), (q1, .inl (cB, 40, .inl G2))] H := hP
      have hD : va_D A [(h0, .inr (0, [.ref q0, .ref q1, .int (nI n2), .int (nI k2)])), (q0, .inl (cA, 3000, .inl T2)), (q1, .inl (cB, 40, .inl G2))] := hD
      refine lv_goto (tgt := 98) hx hb dX0_add_94 rfl ?_
      subst hQ
      exact W.iret (v := r91) hx hb hr (fun t ht hW => ⟨⟨r91, (n2, T2, k2, G2), rfl, (by rw [show sp_add x y n T0 k G0 = sp_put n n (fun _ => y.toInt32) 1 n T0 k G0 from (by unfold sp_add; (repeat' split) <;> first | rfl | (exfalso; omega))]; exact w91), by rw [ht]; exact hP, va_K.moved hW.alike hK, hD⟩, hS.F ht⟩) hS.2.2 dX0_add_98
  refine lv_tableOut (tgt := 99) hx hb dX0_add_1 (by omega) rfl ?_
  refine lv_iconst (v := (-1 : Int32)) hx hb dX0_add_99 (by decide) ?_
  subst hQ
  exact W.iret (v := (-1 : Int32)) hx hb hr (fun t ht hW => ⟨⟨(-1 : Int32), (n, T, k, G), rfl, (by rw [(show sp_add x y n T0 k G0 = ((-1 : Int32), (n, T0, k, G0)) from (by unfold sp_add; (repeat' split) <;> first | rfl | (exfalso; omega)))]; exact ⟨rfl, tE_mk hT hG hn hk⟩), by rw [ht]; exact hP, va_K.moved hW.alike hK, hD⟩, hS.F ht⟩) hS.2.2 dX0_add_100
set_option maxHeartbeats 4000000 in
set_option maxRecDepth 100000 in
theorem c_X_init (l : Launch) (dC : Nat → ClassId) (dI : Nat → Nat → Nat) (h0 sz : Nat) : Met l yX0_init wsX0_init ({ frames := 1, cells := 2, slots := 3040, locals := 12 } : Room) (va_Pc [.ref h0] (fun U => U.heap.size = sz ∧ va_P (dC, dI) vwCl [(h0, .inr (0, [.null, .null, .int 0, .int 0]))] U.heap ∧ va_K (dC, dI) vwCl [] U ∧ va_D (fun _ => True) [(h0, .inr (0, [.null, .null, .int 0, .int 0]))])) (va_Qv (fun (u : tS) => u = (0, (fun _ => 0), 0, (fun _ => 0))) (fun u t => ∃ (q0 q1 : Nat) (cA cB : ClassId), at_X dC dI (va_A [(h0, .inr (0, [.null, .null, .int 0, .int 0]))] sz) h0 q0 q1 cA cB u t) (va_A [(h0, .inr (0, [.null, .null, .int 0, .int 0]))] sz)) 2 3040 (va_A [(h0, .inr (0, [.null, .null, .int 0, .int 0]))] sz) := by
  refine Met.ofW (cc := cX0_init) (maxL := 1) (ret := none) (by decide) rfl ?_
  intro p e s m args below meth c s₁ B hml hv
  obtain ⟨rfl, hsz, hP, hK, hD0⟩ := hv
  have hx := B.exec
  have hb := B.bytes
  have hr := B.returns
  have hts := atoms_spec (ws := wsX0_init) B.pre
  have hown : s.vm.findClass RX0 = some m.cls := findClass_of_methodNamed B.named
  have hlocks := B.notSynchronized
  have hin : meth.name = "<init>" := (name_of_methodNamed B.named B.method).1
  subst hsz
  have hD := hD0.self (sz := s.heap.size)
  generalize hAe : va_A [(h0, .inr (0, [.null, .null, .int 0, .int 0]))] s.heap.size = A at hD ⊢
  have hA : ∀ q : Nat, s.heap.size ≤ q → A q := fun q h => by rw [← hAe]; exact Or.inr h
  have hS : va_S A s.heap s.heap [] := va_S.rf
  have hP : va_P (dC, dI) vwCl [(h0, .inr (0, [.null, .null, .int 0, .int 0]))] s.heap := hP
  have hinX0 : ∀ w ∈ u_ws RX0 TX0 4, w ∈ wsX0_init := fun w h => List.mem_cons_of_mem _ (inX0 w h)
  have hl := lv_entry ([.ref h0]) (n := 1) (Nat.le_of_ble_eq_true rfl)
  rw [lg_entry_eq]
  generalize (lg_sl ([.ref h0]) ++ List.replicate (1 - (lg_sl ([.ref h0])).length) Slot.unset).toArray = ls at hl ⊢
  have hl : lv_has ls 1 [(0, .ref h0)] := hl
  refine tl_q (fun Q hQ => ?_)
  refine lv_aload_n hx hb dX0_init_0 rfl (lv_at hl 0 rfl) ?_
  refine W.objInit hx hb hown (hts _ (List.mem_cons_of_mem _ k34)) (hts _ (List.mem_cons_of_mem _ k35)) (hts _ (List.mem_cons_of_mem _ k36)) rfl (by rw [hml]; exact hl.1) rfl dX0_init_1 (Nat.le_of_ble_eq_true rfl) (Nat.le_of_ble_eq_true rfl) ?_
  refine W.eq (g2 := F0 m 4 ls []) rfl ?_
  refine lv_aload_n hx hb dX0_init_4 rfl (lv_at hl 0 rfl) ?_
  refine lv_sipush (v := nI 3000) hx hb dX0_init_5 (by decide) ?_
  refine va_newa (atype := .int) (N' := 3000) (a0 := (3000, .inl (fun _ => 0))) (ty := .int) (n := nI 3000) hx hb (hts _ (List.mem_cons_of_mem _ k50)) rfl hK hP hD hS hA (fun _ => rfl) (by decide) (by decide) (by decide) (Nat.le_of_ble_eq_true rfl) (Nat.le_of_ble_eq_true rfl) dX0_init_8 (fun q0 cA H hK hP hD hS => ?_)
  have hP : va_P (dC, dI) vwCl [(h0, .inr (0, [.null, .null, .int 0, .int 0])), (q0, .inl (cA, 3000, .inl ((fun _ => 0))))] H := hP
  have hD : va_D A [(h0, .inr (0, [.null, .null, .int 0, .int 0])), (q0, .inl (cA, 3000, .inl ((fun _ => 0))))] := hD
  have hK : va_K (dC, dI) vwCl [(cA, .int)] s := hK
  refine W.widen (k := 1) (n := 3000) (by omega) (by omega) ?_
  refine va_putF (D := (dC, dI)) (ci := 0) (v := .ref q0) (ty := (.array .int)) (C := RX0) (T := TX0) (N := 4) hx hb hts hinX0 tyX0 tyX0_ok nmX0 hown hK hP hD hS 0 rfl rfl 0 (by decide) (hts _ (List.mem_cons_of_mem _ k37)) (fun _ h9 => h9) rfl hin rfl (by decide +kernel) rfl rfl (Nat.le_of_ble_eq_true rfl) dX0_init_10 (fun H locs hP hD hS => ?_)
  have hP : va_P (dC, dI) vwCl [(h0, .inr (0, [.ref q0, .null, .int 0, .int 0])), (q0, .inl (cA, 3000, .inl ((fun _ => 0))))] H := hP
  have hD : va_D A [(h0, .inr (0, [.ref q0, .null, .int 0, .int 0])), (q0, .inl (cA, 3000, .inl ((fun _ => 0))))] := hD
  refine lv_aload_n hx hb dX0_init_13 rfl (lv_at hl 0 rfl) ?_
  refine lv_bipush (v := nI 40) hx hb dX0_init_14 (by decide) ?_
  refine va_newa (atype := .int) (N' := 40) (a0 := (40, .inl (fun _ => 0))) (ty := .int) (n := nI 40) hx hb (hts _ (List.mem_cons_of_mem _ k50)) rfl hK hP hD hS hA (fun _ => rfl) (by decide) (by decide) (by decide) (Nat.le_of_ble_eq_true rfl) (Nat.le_of_ble_eq_true rfl) dX0_init_16 (fun q1 cB H hK hP hD hS => ?_)
  have hP : va_P (dC, dI) vwCl [(h0, .inr (0, [.ref q0, .null, .int 0, .int 0])), (q0, .inl (cA, 3000, .inl ((fun _ => 0)))), (q1, .inl (cB, 40, .inl ((fun _ => 0))))] H := hP
  have hD : va_D A [(h0, .inr (0, [.ref q0, .null, .int 0, .int 0])), (q0, .inl (cA, 3000, .inl ((fun _ => 0)))), (q1, .inl (cB, 40, .inl ((fun _ => 0))))] := hD
  have hK : va_K (dC, dI) vwCl [(cA, .int), (cB, .int)] s := hK
  refine W.widen (k := 2) (n := 3040) (by omega) (by omega) ?_
  refine va_putF (D := (dC, dI)) (ci := 0) (v := .ref q1) (ty := (.array .int)) (C := RX0) (T := TX0) (N := 4) hx hb hts hinX0 tyX0 tyX0_ok nmX0 hown hK hP hD hS 0 rfl rfl 1 (by decide) (hts _ (List.mem_cons_of_mem _ k38)) (fun _ h9 => h9) rfl hin rfl (by decide +kernel) rfl rfl (Nat.le_of_ble_eq_true rfl) dX0_init_18 (fun H locs hP hD hS => ?_)
  have hP : va_P (dC, dI) vwCl [(h0, .inr (0, [.ref q0, .ref q1, .int 0, .int 0])), (q0, .inl (cA, 3000, .inl ((fun _ => 0)))), (q1, .inl (cB, 40, .inl ((fun _ => 0))))] H := hP
  have hD : va_D A [(h0, .inr (0, [.ref q0, .ref q1, .int 0, .int 0])), (q0, .inl (cA, 3000, .inl ((fun _ => 0)))), (q1, .inl (cB, 40, .inl ((fun _ => 0))))] := hD
  refine lv_aload_n hx hb dX0_init_21 rfl (lv_at hl 0 rfl) ?_
  refine lv_iconst (v := nI 0) hx hb dX0_init_22 (by decide) ?_
  refine va_put (D := (dC, dI)) (ci := 0) (v := .int (nI 0)) (ty := .int) (C := RX0) (T := TX0) (N := 4) hx hb hts hinX0 tyX0 tyX0_ok nmX0 hown hK hP hD hS 0 rfl rfl 2 (by decide) (hts _ (List.mem_cons_of_mem _ k39)) (fun _ h9 => h9) rfl (by decide +kernel) rfl rfl (Nat.le_of_ble_eq_true rfl) dX0_init_23 (fun H locs hP hD hS => ?_)
  have hP : va_P (dC, dI) vwCl [(h0, .inr (0, [.ref q0, .ref q1, .int (nI 0), .int 0])), (q0, .inl (cA, 3000, .inl ((fun _ => 0)))), (q1, .inl (cB, 40, .inl ((fun _ => 0))))] H := hP
  have hD : va_D A [(h0, .inr (0, [.ref q0, .ref q1, .int (nI 0), .int 0])), (q0, .inl (cA, 3000, .inl ((fun _ => 0)))), (q1, .inl (cB, 40, .inl ((fun _ => 0))))] := hD
  refine lv_aload_n hx hb dX0_init_26 rfl (lv_at hl 0 rfl) ?_
  refine lv_iconst (v := nI 0) hx hb dX0_init_27 (by decide) ?_
  refine va_put (D := (dC, dI)) (ci := 0) (v := .int (nI 0)) (ty := .int) (C := RX0) (T := TX0) (N := 4) hx hb hts hinX0 tyX0 tyX0_ok nmX0 hown hK hP hD hS 0 rfl rfl 3 (by decide) (hts _ (List.mem_cons_of_mem _ k40)) (fun _ h9 => h9) rfl (by decide +kernel) rfl rfl (Nat.le_of_ble_eq_true rfl) dX0_init_28 (fun H locs hP hD hS => ?_)
  have hP : va_P (dC, dI) vwCl [(h0, .inr (0, [.ref q0, .ref q1, .int (nI 0), .int (nI 0)])), (q0, .inl (cA, 3000, .inl ((fun _ => 0)))), (q1, .inl (cB, 40, .inl ((fun _ => 0))))] H := hP
  have hD : va_D A [(h0, .inr (0, [.ref q0, .ref q1, .int (nI 0), .int (nI 0)])), (q0, .inl (cA, 3000, .inl ((fun _ => 0)))), (q1, .inl (cB, 40, .inl ((fun _ => 0))))] := hD
  subst hQ
  exact W.vret hx hb hr (fun t ht hW => ⟨⟨(0, (fun _ => 0), 0, (fun _ => 0)), rfl, rfl, q0, q1, cA, cB, by rw [ht]; exact hP, va_K.moved hW.alike hK, hD⟩, hS.F ht⟩) hS.2.2 dX0_init_31
