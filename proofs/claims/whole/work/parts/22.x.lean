set_option maxHeartbeats 4000000 in
set_option maxRecDepth 100000 in
theorem c_X_putDigits (l : Launch) (dC : Nat → ClassId) (dI : Nat → Nat → Nat) (h0 q0 q1 sz n k : Nat) (cA cB : ClassId) (T G T0 G0 : Nat → Int32) (hT : ∀ j, j < n → T j = T0 j) (hG : ∀ j, j < k → G j = G0 j) (hn : n ≤ 3000) (hk : k ≤ 40) (a : Nat) (x : Int64) (han : a ≤ n) : Met l yX0_putDigits wsX0_putDigits ({ frames := 2, cells := 0, slots := 0, locals := 44 } : Room) (va_Pc [.ref h0, .int (nI a), .long x] (fun U => U.heap.size = sz ∧ va_P (dC, dI) vwCl [(h0, .inr (0, [.ref q0, .ref q1, .int (nI n), .int (nI k)])), (q0, .inl (cA, 3000, .inl T)), (q1, .inl (cB, 40, .inl G))] U.heap ∧ va_K (dC, dI) vwCl [(cA, .int), (cB, .int)] U ∧ va_D (fun _ => True) [(h0, .inr (0, [.ref q0, .ref q1, .int (nI n), .int (nI k)])), (q0, .inl (cA, 3000, .inl T)), (q1, .inl (cB, 40, .inl G))])) (va_Qi (fun (r : Int32) (u : tS) => r = (sp_put a a (dg_w x) (dg_m x) n T0 k G0).1 ∧ tE u (sp_put a a (dg_w x) (dg_m x) n T0 k G0).2) (at_X dC dI (va_A [(h0, .inr (0, [.ref q0, .ref q1, .int (nI n), .int (nI k)])), (q0, .inl (cA, 3000, .inl T)), (q1, .inl (cB, 40, .inl G))] sz) h0 q0 q1 cA cB) (va_A [(h0, .inr (0, [.ref q0, .ref q1, .int (nI n), .int (nI k)])), (q0, .inl (cA, 3000, .inl T)), (q1, .inl (cB, 40, .inl G))] sz)) 0 0 (va_A [(h0, .inr (0, [.ref q0, .ref q1, .int (nI n), .int (nI k)])), (q0, .inl (cA, 3000, .inl T)), (q1, .inl (cB, 40, .inl G))] sz) := by
  refine Met.ofW (cc := cX0_putDigits) (maxL := 9) (ret := (some .int)) (by decide) rfl ?_
  intro p e s m args below meth c s₁ B hml hv
  obtain ⟨rfl, hsz, hP, hK, hD0⟩ := hv
  have hx := B.exec
  have hb := B.bytes
  have hr := B.returns
  have hts := atoms_spec (ws := wsX0_putDigits) B.pre
  have hown : s.vm.findClass RX0 = some m.cls := findClass_of_methodNamed B.named
  have hlocks := B.notSynchronized
  subst hsz
  have hD := hD0.self (sz := s.heap.size)
  generalize hAe : va_A [(h0, .inr (0, [.ref q0, .ref q1, .int (nI n), .int (nI k)])), (q0, .inl (cA, 3000, .inl T)), (q1, .inl (cB, 40, .inl G))] s.heap.size = A at hD ⊢
  have hA : ∀ q : Nat, s.heap.size ≤ q → A q := fun q h => by rw [← hAe]; exact Or.inr h
  have hS : va_S A s.heap s.heap [] := va_S.rf
  have hP : va_P (dC, dI) vwCl [(h0, .inr (0, [.ref q0, .ref q1, .int (nI n), .int (nI k)])), (q0, .inl (cA, 3000, .inl T)), (q1, .inl (cB, 40, .inl G))] s.heap := hP
  have hinX0 : ∀ w ∈ u_ws RX0 TX0 4, w ∈ wsX0_putDigits := fun w h => List.mem_cons_of_mem _ (inX0 w h)
  have hm20 := dg_m_le x
  have hm1 := dg_m_pos x
  have hc20 := dg_c_le x
  have hl := lv_entry ([.ref h0, .int (nI a), .long x]) (n := 9) (Nat.le_of_ble_eq_true rfl)
  rw [lg_entry_eq]
  generalize (lg_sl ([.ref h0, .int (nI a), .long x]) ++ List.replicate (9 - (lg_sl ([.ref h0, .int (nI a), .long x])).length) Slot.unset).toArray = ls at hl ⊢
  have hl : lv_has ls 9 [(0, .ref h0), (1, .int (nI a)), (2, .long x)] := hl
  refine tl_q (fun Q hQ => ?_)
  refine lv_lload_n hx hb dX0_putDigits_0 rfl (lv_at hl 2 rfl) ?_
  refine lv_lconst (v := (0 : Int64)) hx hb dX0_putDigits_1 (by decide) ?_
  refine W.lcmp hx hb dX0_putDigits_2 ?_
  refine lv_if_ge (tgt := 10) hx hb dX0_putDigits_3 rfl (fun h3 => ?_) (fun h3 => ?_)
  · skip
    have h3 := (tl_lge (show x.toInt = x.toInt from rfl) (show ((0 : Int64)).toInt = (0 : Int) from (by decide))).mp h3
    refine lv_iconst (v := nI 0) hx hb dX0_putDigits_10 (by decide) ?_
    refine lv_istore (lv' := [(4, .int (nI 0)), (0, .ref h0), (1, .int (nI a)), (2, .long x)]) hx hb dX0_putDigits_11 hl (by decide) rfl (fun ls hl => ?_)
    refine lv_iload hx hb dX0_putDigits_13 (lv_at hl 0 rfl) ?_
    refine lv_lload_n hx hb dX0_putDigits_15 rfl (lv_at hl 3 rfl) ?_
    refine vp_callSi ((va_runS (As := [.long x]) (rest := [.int (nI 0)]) ⟨hx, hb, hml, hown, hts⟩ (c_X_countDigits l x) (va_cwS 1 hts (gS_ (fun w h => List.mem_cons_of_mem _ h) k73 k74 k21 k75) rfl rfl rfl (by decide +kernel) ⟨Nat.le_of_ble_eq_true rfl, Nat.le_of_ble_eq_true rfl⟩) ⟨fun a U g mk q => q, fun U hU hW => ⟨rfl, trivial⟩⟩ rfl rfl hl.1 rfl (lv_room (Nat.le_of_ble_eq_true rfl)) dX0_putDigits_16 ⟨Nat.le_of_ble_eq_true rfl, Nat.le_of_ble_eq_true rfl⟩).run) (fun r16 w16 => ?_)
    try dsimp only at w16
    subst w16
    refine lv_iadd hx hb dX0_putDigits_19 ?_
    refine tl_top (y := nI (dg_m x)) (by rw [nI_add]; congr 1; unfold dg_m; rw [if_neg (by omega)]; omega) ?_
    refine lv_istore (lv' := [(5, .int (nI (dg_m x))), (4, .int (nI 0)), (0, .ref h0), (1, .int (nI a)), (2, .long x)]) hx hb dX0_putDigits_20 hl (by decide) rfl (fun ls hl => ?_)
    refine lv_aload_n hx hb dX0_putDigits_22 rfl (lv_at hl 2 rfl) ?_
    refine lv_iload hx hb dX0_putDigits_23 (lv_at hl 0 rfl) ?_
    have ea25_0 : (nI (dg_m x)).toInt = ((dg_m x : Nat) : Int) := (nI_toInt (by omega))
    refine vp_callSi ((va_runV (As := [.int (nI (dg_m x))]) (rest := []) ⟨hx, hb, hml, hown, hts⟩ (c_X_hasRoom l dC dI h0 q0 q1 n k cA cB T G T0 G0 hT hG hn hk (nI (dg_m x)) (by omega) (by omega)) (cwV 1 hts (gV_ (fun w h => List.mem_cons_of_mem _ h) k77 k79 k1 k21 k80) rfl rfl rfl (by decide +kernel) ⟨Nat.le_of_ble_eq_true rfl, Nat.le_of_ble_eq_true rfl⟩) ⟨fun a U g mk q => by obtain ⟨q0, qP, qK⟩ := q; exact ⟨q0, qP, va_K.moved (u := U) (U := U.calling g mk a) (Vm.Alike.refl U.vm) qK⟩, va_recv hK hP (ci := 0) (q0 := 0) rfl rfl, fun U hU hW => ⟨rfl, by rw [hU]; exact hP, va_K.moved hW.alike hK⟩⟩ rfl rfl hl.1 rfl (lv_room (Nat.le_of_ble_eq_true rfl)) dX0_putDigits_25 ⟨Nat.le_of_ble_eq_true rfl, Nat.le_of_ble_eq_true rfl⟩).run) (fun r25 w25 => ?_)
    try dsimp only at w25
    refine lv_if_ne (tgt := 34) hx hb dX0_putDigits_28 rfl (fun h28 => ?_) (fun h28 => ?_)
    · skip
      have h28 := (tl_b1 w25).mp h28
      refine lv_aload_n hx hb dX0_putDigits_34 rfl (lv_at hl 2 rfl) ?_
      refine lv_iload_n hx hb dX0_putDigits_35 rfl (lv_at hl 3 rfl) ?_
      refine lv_iload_n hx hb dX0_putDigits_36 rfl (lv_at hl 3 rfl) ?_
      refine lv_iload hx hb dX0_putDigits_37 (lv_at hl 0 rfl) ?_
      have hPc := hP.sub (ws' := [(h0, .inr (0, [.ref q0, .ref q1, .int (nI n), .int (nI k)])), (q0, .inl (cA, 3000, .inl T)), (q1, .inl (cB, 40, .inl G))]) [0, 1, 2] rfl
      have hDc := hD.sub (ws' := [(h0, .inr (0, [.ref q0, .ref q1, .int (nI n), .int (nI k)])), (q0, .inl (cA, 3000, .inl T)), (q1, .inl (cB, 40, .inl G))]) [0, 1, 2] (by decide) rfl
      have hKc := hK
      have hFc := va_free (wc := [(h0, .inr (0, [.ref q0, .ref q1, .int (nI n), .int (nI k)])), (q0, .inl (cA, 3000, .inl T)), (q1, .inl (cB, 40, .inl G))]) hD hS hA [0, 1, 2] rfl
      refine va_callv (va_runV (As := [.int (nI a), .int (nI a), .int (nI (dg_m x))]) (rest := []) ⟨hx, hb, hml, hown, hts⟩ (c_X_makeGap l dC dI h0 q0 q1 s.heap.size n k cA cB T G T0 G0 hT hG hn hk a a (dg_m x) (by omega) (by omega) (by omega)) (cwV 3 hts (gV_ (fun w h => List.mem_cons_of_mem _ h) k81 k83 k2 k21 k84) rfl rfl rfl (by decide +kernel) ⟨Nat.le_of_ble_eq_true rfl, Nat.le_of_ble_eq_true rfl⟩) ⟨fun a U g mk q => by obtain ⟨q0, q1, qP, qK, qD⟩ := q; exact ⟨q0, q1, qP, va_K.moved (u := U) (U := U.calling g mk a) (Vm.Alike.refl U.vm) qK, qD⟩, va_recv hKc hPc (ci := 0) (q0 := 0) rfl rfl, fun U hU hW => ⟨rfl, by rw [hU], by rw [hU]; exact hPc, va_K.moved hW.alike hKc, hDc.weaken (fun _ _ _ _ => trivial)⟩⟩ rfl rfl hl.1 rfl (lv_room (Nat.le_of_ble_eq_true rfl)) dX0_putDigits_39 ⟨Nat.le_of_ble_eq_true rfl, Nat.le_of_ble_eq_true rfl⟩) hS (fun q _ h => hFc q h) hFc (fun u39 t H locs ht hvm w39 hB hz1 hk1 hS => ?_)
      try dsimp only at w39
      subst w39
      obtain ⟨hP1, hK1, hD1⟩ := hB
      rw [ht] at hP1
      obtain ⟨hP, hD⟩ := va_join (wr := []) (w1 := [(h0, .inr (0, [.ref q0, .ref q1, .int (nI (n - (a - a) + (dg_m x))), .int (nI k)])), (q0, .inl (cA, 3000, .inl (va_cpy T T a (a + (dg_m x)) (n - a)))), (q1, .inl (cB, 40, .inl G))]) hP hD [0, 1, 2] [] rfl rfl (by decide) (by decide) hk1 hFc hP1 hD1
      have hP : va_P (dC, dI) vwCl [(h0, .inr (0, [.ref q0, .ref q1, .int (nI (n - (a - a) + (dg_m x))), .int (nI k)])), (q0, .inl (cA, 3000, .inl (va_cpy T T a (a + (dg_m x)) (n - a)))), (q1, .inl (cB, 40, .inl G))] H := hP
      have hD : va_D A [(h0, .inr (0, [.ref q0, .ref q1, .int (nI (n - (a - a) + (dg_m x))), .int (nI k)])), (q0, .inl (cA, 3000, .inl (va_cpy T T a (a + (dg_m x)) (n - a)))), (q1, .inl (cB, 40, .inl G))] := hD
      refine lv_iload hx hb dX0_putDigits_42 (lv_at hl 1 rfl) ?_
      refine lv_iconst (v := nI 1) hx hb dX0_putDigits_44 (by decide) ?_
      refine lv_icmp_ne (tgt := 56) hx hb dX0_putDigits_45 rfl (fun h45 => ?_) (fun h45 => ?_)
      · skip
        have h45 := (not_congr (tl_eq (show (nI 0).toInt = (0 : Int) from (by decide)) (show (nI 1).toInt = (1 : Int) from (by decide)))).mp h45
        refine lv_lload_n hx hb dX0_putDigits_56 rfl (lv_at hl 4 rfl) ?_
        refine lv_lstore (lv' := [(6, .long x), (5, .int (nI (dg_m x))), (4, .int (nI 0)), (0, .ref h0), (1, .int (nI a)), (2, .long x)]) hx hb dX0_putDigits_57 hl (by decide) rfl (fun ls hl => ?_)
        refine lv_iload hx hb dX0_putDigits_59 (lv_at hl 1 rfl) ?_
        refine lv_iconst (v := nI 1) hx hb dX0_putDigits_61 (by decide) ?_
        refine lv_isub hx hb dX0_putDigits_62 ?_
        have e62 : ((nI (dg_m x)) - (nI 1)).toInt = ((dg_m x : Nat) : Int) - ((1 : Int)) := tl_subv (nI_toInt (by omega)) (by decide) (by omega) (by omega)
        refine lv_istore (lv' := [(8, .int ((nI (dg_m x)) - (nI 1))), (6, .long x), (5, .int (nI (dg_m x))), (4, .int (nI 0)), (0, .ref h0), (1, .int (nI a)), (2, .long x)]) hx hb dX0_putDigits_63 hl (by decide) rfl (fun ls hl => ?_)
        have LP65 : ∀ (fu : Nat) (j : Nat) (y : Int64) (F : Nat → Int32) (H : Heap) (locs : List Loc) (ls : Array Slot), j < fu → j ≤ dg_m x → 0 ≤ j → y.toInt.natAbs = x.toInt.natAbs / 10 ^ (dg_m x - j) → (∀ i, i < n - (a - a) + dg_m x → (i < a ∨ a + j ≤ i) → F i = tl_rep T0 a a (dg_w x) (dg_m x) i) → lv_has ls 9 [(0, .ref h0), (1, .int (nI a)), (4, .int (nI 0)), (5, .int (nI (dg_m x))), (6, .long y), (8, .int (nI j - nI 1))] → va_P (dC, dI) vwCl [(h0, .inr (0, [.ref q0, .ref q1, .int (nI (n - (a - a) + (dg_m x))), .int (nI k)])), (q0, .inl (cA, 3000, .inl F)), (q1, .inl (cB, 40, .inl G))] H → va_D A [(h0, .inr (0, [.ref q0, .ref q1, .int (nI (n - (a - a) + (dg_m x))), .int (nI k)])), (q0, .inl (cA, 3000, .inl F)), (q1, .inl (cB, 40, .inl G))] → va_S A s.heap H locs → W p l e (headSpec wsX0_putDigits ({ frames := 2, cells := 0, slots := 0, locals := 44 } : Room)).room s m ([.ref h0, .int (nI a), .long x] : List Value).toArray below meth c H locs 0 0 Q (F0 m 65 ls []) := by
          intro fu
          induction fu with
          | zero => intro j y F H locs ls hfu; exact absurd hfu (Nat.not_lt_zero _)
          | succ fu ih =>
            intro j y F H locs ls hfu hj1 hj2 hy hF hl hP hD hS
            refine lv_iload hx hb dX0_putDigits_65 (lv_at hl 5 rfl) ?_
            refine lv_iload hx hb dX0_putDigits_67 (lv_at hl 2 rfl) ?_
            refine lv_icmp_lt (tgt := 108) hx hb dX0_putDigits_69 rfl (fun h69 => ?_) (fun h69 => ?_)
            · skip
              have h69 := (tl_lt (show (nI j - nI 1).toInt = ((j : Int) - 1) from (tl_predv (by omega))) (show (nI 0).toInt = ((0 : Nat) : Int) from (nI_toInt (by omega)))).mp h69
              refine lv_aload_n hx hb dX0_putDigits_108 rfl (lv_at hl 0 rfl) ?_
              refine va_get (D := (dC, dI)) (ci := 0) (v := .int (nI (n - (a - a) + (dg_m x)))) (C := RX0) (T := TX0) (N := 4) hx hb hts hinX0 hown hK hP 0 rfl rfl 2 (by decide) (hts _ (List.mem_cons_of_mem _ k39)) (fun _ h9 => h9) rfl dX0_putDigits_109 ?_
              subst hQ
              exact W.iret (v := nI (n - (a - a) + (dg_m x))) hx hb hr (fun t ht hW => ⟨⟨nI (n - (a - a) + (dg_m x)), (n - (a - a) + (dg_m x), F, k, G), rfl, (by unfold sp_put; rw [if_pos (by omega)]; exact ⟨rfl, tE_mk (fun i hi => hF i hi (by omega)) hG (by omega) hk⟩), by rw [ht]; exact hP, va_K.moved hW.alike hK, hD⟩, hS.F ht⟩) hS.2.2 dX0_putDigits_112
            · skip
              have h69 := (not_congr (tl_lt (show (nI j - nI 1).toInt = ((j : Int) - 1) from (tl_predv (by omega))) (show (nI 0).toInt = ((0 : Nat) : Int) from (nI_toInt (by omega))))).mp h69
              obtain ⟨i, rfl⟩ : ∃ i, j = i + 1 := ⟨j - 1, by omega⟩
              rw [show nI (i + 1) - nI 1 = nI i from pk_sub (by omega)] at hl
              have hl : lv_has ls 9 [(0, .ref h0), (1, .int (nI a)), (4, .int (nI 0)), (5, .int (nI (dg_m x))), (6, .long y), (8, .int (nI i))] := hl
              refine lv_aload_n hx hb dX0_putDigits_72 rfl (lv_at hl 0 rfl) ?_
              refine va_get (D := (dC, dI)) (ci := 0) (v := .ref q0) (C := RX0) (T := TX0) (N := 4) hx hb hts hinX0 hown hK hP 0 rfl rfl 0 (by decide) (hts _ (List.mem_cons_of_mem _ k37)) (fun _ h9 => h9) rfl dX0_putDigits_73 ?_
              refine lv_iload_n hx hb dX0_putDigits_76 rfl (lv_at hl 1 rfl) ?_
              refine lv_iload hx hb dX0_putDigits_77 (lv_at hl 5 rfl) ?_
              refine lv_iadd hx hb dX0_putDigits_79 ?_
              refine tl_top (nI_add _ _) ?_
              refine lv_bipush (v := nI 48) hx hb dX0_putDigits_80 (by decide) ?_
              refine lv_lload hx hb dX0_putDigits_82 (lv_at hl 4 rfl) ?_
              refine lv_ldc2 (v := (10 : Int64)) hx hb hown (hts _ (List.mem_cons_of_mem _ k76)) dX0_putDigits_84 ?_
              refine lv_lrem hx hb dX0_putDigits_87 (by decide) ?_
              refine lv_l2i hx hb dX0_putDigits_88 rfl ?_
              refine va_mabs hx hb (hml.trans hl.1.symm) hown (hts _ (List.mem_cons_of_mem _ k88)) (hts _ (List.mem_cons_of_mem _ k89)) (hts _ (List.mem_cons_of_mem _ k24)) (hts _ (List.mem_cons_of_mem _ k90)) (Nat.le_of_ble_eq_true rfl) (Nat.le_of_ble_eq_true rfl) (Nat.zero_le _) (Nat.zero_le _) dX0_putDigits_89 ?_
              refine tl_top (y := nI (x.toInt.natAbs / 10 ^ (dg_m x - (i + 1)) % 10)) (dg_dig hy) ?_
              refine lv_iadd hx hb dX0_putDigits_92 ?_
              refine tl_top (nI_add _ _) ?_
              refine tl_iast hx hb hK hP hD hS 1 0 rfl rfl (by omega) (by decide) dX0_putDigits_93 (fun H locs hP hD hS => ?_)
              have hP : va_P (dC, dI) vwCl [(h0, .inr (0, [.ref q0, .ref q1, .int (nI (n - (a - a) + (dg_m x))), .int (nI k)])), (q0, .inl (cA, 3000, .inl (upd F (a + i) (nI (48 + (x.toInt.natAbs / 10 ^ (dg_m x - (i + 1)) % 10)))))), (q1, .inl (cB, 40, .inl G))] H := hP
              have hD : va_D A [(h0, .inr (0, [.ref q0, .ref q1, .int (nI (n - (a - a) + (dg_m x))), .int (nI k)])), (q0, .inl (cA, 3000, .inl (upd F (a + i) (nI (48 + (x.toInt.natAbs / 10 ^ (dg_m x - (i + 1)) % 10)))))), (q1, .inl (cB, 40, .inl G))] := hD
              refine lv_lload hx hb dX0_putDigits_94 (lv_at hl 4 rfl) ?_
              refine lv_ldc2 (v := (10 : Int64)) hx hb hown (hts _ (List.mem_cons_of_mem _ k76)) dX0_putDigits_96 ?_
              refine lv_ldiv hx hb dX0_putDigits_99 (by decide) ?_
              refine lv_lstore (lv' := [(6, .long (y / ((10 : Int64)))), (0, .ref h0), (1, .int (nI a)), (4, .int (nI 0)), (5, .int (nI (dg_m x))), (8, .int (nI i))]) hx hb dX0_putDigits_100 hl (by decide) rfl (fun ls hl => ?_)
              refine lv_iinc (lv' := [(8, .int (nI i - nI 1)), (6, .long (y / ((10 : Int64)))), (0, .ref h0), (1, .int (nI a)), (4, .int (nI 0)), (5, .int (nI (dg_m x)))]) (k := 5) (v := nI i - nI 1) hx hb dX0_putDigits_102 hl rfl (tl_dec i) (by decide) rfl (fun ls hl => ?_)
              refine lv_goto (tgt := 65) hx hb dX0_putDigits_105 rfl ?_
              exact ih i (y / (10 : Int64)) (upd F (a + i) (nI (48 + (x.toInt.natAbs / 10 ^ (dg_m x - (i + 1)) % 10)))) _ _ ls (by omega) (by omega) (by omega) (dg_down hy (by omega)) (pu_dgsp (by omega) (by omega) (by omega) hF) (lv_sub hl [2, 3, 4, 5, 1, 0] rfl) hP hD hS
        exact LP65 _ (dg_m x) x (va_cpy T T a (a + (dg_m x)) (n - a)) _ _ ls (Nat.lt_succ_self _) (by omega) (by omega) (by rw [Nat.sub_self, Nat.pow_zero, Nat.div_one]) (fun i hi h => pu_gap hT han i hi h) (lv_sub hl [4, 5, 3, 2, 1, 0] rfl) hP hD hS
      · skip
        have h45 := (tl_eq (show (nI 0).toInt = (0 : Int) from (by decide)) (show (nI 1).toInt = (1 : Int) from (by decide))).mp h45
        exfalso; omega
    · skip
      have h28 := (tl_b0 w25).mp h28
      refine lv_bipush (v := (-3 : Int32)) hx hb dX0_putDigits_31 (by decide) ?_
      subst hQ
      exact W.iret (v := (-3 : Int32)) hx hb hr (fun t ht hW => ⟨⟨(-3 : Int32), (n, T, k, G), rfl, (by unfold sp_put; rw [if_neg (by omega)]; exact ⟨rfl, tE_mk hT hG hn hk⟩), by rw [ht]; exact hP, va_K.moved hW.alike hK, hD⟩, hS.F ht⟩) hS.2.2 dX0_putDigits_33
  · skip
    have h3 := (not_congr (tl_lge (show x.toInt = x.toInt from rfl) (show ((0 : Int64)).toInt = (0 : Int) from (by decide)))).mp h3
    refine lv_iconst (v := nI 1) hx hb dX0_putDigits_6 (by decide) ?_
    refine lv_goto (tgt := 11) hx hb dX0_putDigits_7 rfl ?_
    refine lv_istore (lv' := [(4, .int (nI 1)), (0, .ref h0), (1, .int (nI a)), (2, .long x)]) hx hb dX0_putDigits_11 hl (by decide) rfl (fun ls hl => ?_)
    refine lv_iload hx hb dX0_putDigits_13 (lv_at hl 0 rfl) ?_
    refine lv_lload_n hx hb dX0_putDigits_15 rfl (lv_at hl 3 rfl) ?_
    refine vp_callSi ((va_runS (As := [.long x]) (rest := [.int (nI 1)]) ⟨hx, hb, hml, hown, hts⟩ (c_X_countDigits l x) (va_cwS 1 hts (gS_ (fun w h => List.mem_cons_of_mem _ h) k73 k74 k21 k75) rfl rfl rfl (by decide +kernel) ⟨Nat.le_of_ble_eq_true rfl, Nat.le_of_ble_eq_true rfl⟩) ⟨fun a U g mk q => q, fun U hU hW => ⟨rfl, trivial⟩⟩ rfl rfl hl.1 rfl (lv_room (Nat.le_of_ble_eq_true rfl)) dX0_putDigits_16 ⟨Nat.le_of_ble_eq_true rfl, Nat.le_of_ble_eq_true rfl⟩).run) (fun r16 w16 => ?_)
    try dsimp only at w16
    subst w16
    refine lv_iadd hx hb dX0_putDigits_19 ?_
    refine tl_top (y := nI (dg_m x)) (by rw [nI_add]; congr 1; unfold dg_m; rw [if_pos (by omega)]; omega) ?_
    refine lv_istore (lv' := [(5, .int (nI (dg_m x))), (4, .int (nI 1)), (0, .ref h0), (1, .int (nI a)), (2, .long x)]) hx hb dX0_putDigits_20 hl (by decide) rfl (fun ls hl => ?_)
    refine lv_aload_n hx hb dX0_putDigits_22 rfl (lv_at hl 2 rfl) ?_
    refine lv_iload hx hb dX0_putDigits_23 (lv_at hl 0 rfl) ?_
    have ea25_0 : (nI (dg_m x)).toInt = ((dg_m x : Nat) : Int) := (nI_toInt (by omega))
    refine vp_callSi ((va_runV (As := [.int (nI (dg_m x))]) (rest := []) ⟨hx, hb, hml, hown, hts⟩ (c_X_hasRoom l dC dI h0 q0 q1 n k cA cB T G T0 G0 hT hG hn hk (nI (dg_m x)) (by omega) (by omega)) (cwV 1 hts (gV_ (fun w h => List.mem_cons_of_mem _ h) k77 k79 k1 k21 k80) rfl rfl rfl (by decide +kernel) ⟨Nat.le_of_ble_eq_true rfl, Nat.le_of_ble_eq_true rfl⟩) ⟨fun a U g mk q => by obtain ⟨q0, qP, qK⟩ := q; exact ⟨q0, qP, va_K.moved (u := U) (U := U.calling g mk a) (Vm.Alike.refl U.vm) qK⟩, va_recv hK hP (ci := 0) (q0 := 0) rfl rfl, fun U hU hW => ⟨rfl, by rw [hU]; exact hP, va_K.moved hW.alike hK⟩⟩ rfl rfl hl.1 rfl (lv_room (Nat.le_of_ble_eq_true rfl)) dX0_putDigits_25 ⟨Nat.le_of_ble_eq_true rfl, Nat.le_of_ble_eq_true rfl⟩).run) (fun r25 w25 => ?_)
    try dsimp only at w25
    refine lv_if_ne (tgt := 34) hx hb dX0_putDigits_28 rfl (fun h28 => ?_) (fun h28 => ?_)
    · skip
      have h28 := (tl_b1 w25).mp h28
      refine lv_aload_n hx hb dX0_putDigits_34 rfl (lv_at hl 2 rfl) ?_
      refine lv_iload_n hx hb dX0_putDigits_35 rfl (lv_at hl 3 rfl) ?_
      refine lv_iload_n hx hb dX0_putDigits_36 rfl (lv_at hl 3 rfl) ?_
      refine lv_iload hx hb dX0_putDigits_37 (lv_at hl 0 rfl) ?_
      have hPc := hP.sub (ws' := [(h0, .inr (0, [.ref q0, .ref q1, .int (nI n), .int (nI k)])), (q0, .inl (cA, 3000, .inl T)), (q1, .inl (cB, 40, .inl G))]) [0, 1, 2] rfl
      have hDc := hD.sub (ws' := [(h0, .inr (0, [.ref q0, .ref q1, .int (nI n), .int (nI k)])), (q0, .inl (cA, 3000, .inl T)), (q1, .inl (cB, 40, .inl G))]) [0, 1, 2] (by decide) rfl
      have hKc := hK
      have hFc := va_free (wc := [(h0, .inr (0, [.ref q0, .ref q1, .int (nI n), .int (nI k)])), (q0, .inl (cA, 3000, .inl T)), (q1, .inl (cB, 40, .inl G))]) hD hS hA [0, 1, 2] rfl
      refine va_callv (va_runV (As := [.int (nI a), .int (nI a), .int (nI (dg_m x))]) (rest := []) ⟨hx, hb, hml, hown, hts⟩ (c_X_makeGap l dC dI h0 q0 q1 s.heap.size n k cA cB T G T0 G0 hT hG hn hk a a (dg_m x) (by omega) (by omega) (by omega)) (cwV 3 hts (gV_ (fun w h => List.mem_cons_of_mem _ h) k81 k83 k2 k21 k84) rfl rfl rfl (by decide +kernel) ⟨Nat.le_of_ble_eq_true rfl, Nat.le_of_ble_eq_true rfl⟩) ⟨fun a U g mk q => by obtain ⟨q0, q1, qP, qK, qD⟩ := q; exact ⟨q0, q1, qP, va_K.moved (u := U) (U := U.calling g mk a) (Vm.Alike.refl U.vm) qK, qD⟩, va_recv hKc hPc (ci := 0) (q0 := 0) rfl rfl, fun U hU hW => ⟨rfl, by rw [hU], by rw [hU]; exact hPc, va_K.moved hW.alike hKc, hDc.weaken (fun _ _ _ _ => trivial)⟩⟩ rfl rfl hl.1 rfl (lv_room (Nat.le_of_ble_eq_true rfl)) dX0_putDigits_39 ⟨Nat.le_of_ble_eq_true rfl, Nat.le_of_ble_eq_true rfl⟩) hS (fun q _ h => hFc q h) hFc (fun u39 t H locs ht hvm w39 hB hz1 hk1 hS => ?_)
      try dsimp only at w39
      subst w39
      obtain ⟨hP1, hK1, hD1⟩ := hB
      rw [ht] at hP1
      obtain ⟨hP, hD⟩ := va_join (wr := []) (w1 := [(h0, .inr (0, [.ref q0, .ref q1, .int (nI (n - (a - a) + (dg_m x))), .int (nI k)])), (q0, .inl (cA, 3000, .inl (va_cpy T T a (a + (dg_m x)) (n - a)))), (q1, .inl (cB, 40, .inl G))]) hP hD [0, 1, 2] [] rfl rfl (by decide) (by decide) hk1 hFc hP1 hD1
      have hP : va_P (dC, dI) vwCl [(h0, .inr (0, [.ref q0, .ref q1, .int (nI (n - (a - a) + (dg_m x))), .int (nI k)])), (q0, .inl (cA, 3000, .inl (va_cpy T T a (a + (dg_m x)) (n - a)))), (q1, .inl (cB, 40, .inl G))] H := hP
      have hD : va_D A [(h0, .inr (0, [.ref q0, .ref q1, .int (nI (n - (a - a) + (dg_m x))), .int (nI k)])), (q0, .inl (cA, 3000, .inl (va_cpy T T a (a + (dg_m x)) (n - a)))), (q1, .inl (cB, 40, .inl G))] := hD
      refine lv_iload hx hb dX0_putDigits_42 (lv_at hl 1 rfl) ?_
      refine lv_iconst (v := nI 1) hx hb dX0_putDigits_44 (by decide) ?_
      refine lv_icmp_ne (tgt := 56) hx hb dX0_putDigits_45 rfl (fun h45 => ?_) (fun h45 => ?_)
      · skip
        have h45 := (not_congr (tl_eq (show (nI 1).toInt = (1 : Int) from (by decide)) (show (nI 1).toInt = (1 : Int) from (by decide)))).mp h45
        exfalso; omega
      · skip
        have h45 := (tl_eq (show (nI 1).toInt = (1 : Int) from (by decide)) (show (nI 1).toInt = (1 : Int) from (by decide))).mp h45
        refine lv_aload_n hx hb dX0_putDigits_48 rfl (lv_at hl 2 rfl) ?_
        refine va_get (D := (dC, dI)) (ci := 0) (v := .ref q0) (C := RX0) (T := TX0) (N := 4) hx hb hts hinX0 hown hK hP 0 rfl rfl 0 (by decide) (hts _ (List.mem_cons_of_mem _ k37)) (fun _ h9 => h9) rfl dX0_putDigits_49 ?_
        refine lv_iload_n hx hb dX0_putDigits_52 rfl (lv_at hl 3 rfl) ?_
        refine lv_bipush (v := nI 45) hx hb dX0_putDigits_53 (by decide) ?_
        refine tl_iast hx hb hK hP hD hS 1 0 rfl rfl (by omega) (by decide) dX0_putDigits_55 (fun H locs hP hD hS => ?_)
        have hP : va_P (dC, dI) vwCl [(h0, .inr (0, [.ref q0, .ref q1, .int (nI (n - (a - a) + (dg_m x))), .int (nI k)])), (q0, .inl (cA, 3000, .inl (upd (va_cpy T T a (a + (dg_m x)) (n - a)) a (nI 45)))), (q1, .inl (cB, 40, .inl G))] H := hP
        have hD : va_D A [(h0, .inr (0, [.ref q0, .ref q1, .int (nI (n - (a - a) + (dg_m x))), .int (nI k)])), (q0, .inl (cA, 3000, .inl (upd (va_cpy T T a (a + (dg_m x)) (n - a)) a (nI 45)))), (q1, .inl (cB, 40, .inl G))] := hD
        refine lv_lload_n hx hb dX0_putDigits_56 rfl (lv_at hl 4 rfl) ?_
        refine lv_lstore (lv' := [(6, .long x), (5, .int (nI (dg_m x))), (4, .int (nI 1)), (0, .ref h0), (1, .int (nI a)), (2, .long x)]) hx hb dX0_putDigits_57 hl (by decide) rfl (fun ls hl => ?_)
        refine lv_iload hx hb dX0_putDigits_59 (lv_at hl 1 rfl) ?_
        refine lv_iconst (v := nI 1) hx hb dX0_putDigits_61 (by decide) ?_
        refine lv_isub hx hb dX0_putDigits_62 ?_
        have e62 : ((nI (dg_m x)) - (nI 1)).toInt = ((dg_m x : Nat) : Int) - ((1 : Int)) := tl_subv (nI_toInt (by omega)) (by decide) (by omega) (by omega)
        refine lv_istore (lv' := [(8, .int ((nI (dg_m x)) - (nI 1))), (6, .long x), (5, .int (nI (dg_m x))), (4, .int (nI 1)), (0, .ref h0), (1, .int (nI a)), (2, .long x)]) hx hb dX0_putDigits_63 hl (by decide) rfl (fun ls hl => ?_)
        have LP65 : ∀ (fu : Nat) (j : Nat) (y : Int64) (F : Nat → Int32) (H : Heap) (locs : List Loc) (ls : Array Slot), j < fu → j ≤ dg_m x → 1 ≤ j → y.toInt.natAbs = x.toInt.natAbs / 10 ^ (dg_m x - j) → (∀ i, i < n - (a - a) + dg_m x → (i < a ∨ a + j ≤ i ∨ i = a) → F i = tl_rep T0 a a (dg_w x) (dg_m x) i) → lv_has ls 9 [(0, .ref h0), (1, .int (nI a)), (4, .int (nI 1)), (5, .int (nI (dg_m x))), (6, .long y), (8, .int (nI j - nI 1))] → va_P (dC, dI) vwCl [(h0, .inr (0, [.ref q0, .ref q1, .int (nI (n - (a - a) + (dg_m x))), .int (nI k)])), (q0, .inl (cA, 3000, .inl F)), (q1, .inl (cB, 40, .inl G))] H → va_D A [(h0, .inr (0, [.ref q0, .ref q1, .int (nI (n - (a - a) + (dg_m x))), .int (nI k)])), (q0, .inl (cA, 3000, .inl F)), (q1, .inl (cB, 40, .inl G))] → va_S A s.heap H locs → W p l e (headSpec wsX0_putDigits ({ frames := 2, cells := 0, slots := 0, locals := 44 } : Room)).room s m ([.ref h0, .int (nI a), .long x] : List Value).toArray below meth c H locs 0 0 Q (F0 m 65 ls []) := by
          intro fu
          induction fu with
          | zero => intro j y F H locs ls hfu; exact absurd hfu (Nat.not_lt_zero _)
          | succ fu ih =>
            intro j y F H locs ls hfu hj1 hj2 hy hF hl hP hD hS
            refine lv_iload hx hb dX0_putDigits_65 (lv_at hl 5 rfl) ?_
            refine lv_iload hx hb dX0_putDigits_67 (lv_at hl 2 rfl) ?_
            refine lv_icmp_lt (tgt := 108) hx hb dX0_putDigits_69 rfl (fun h69 => ?_) (fun h69 => ?_)
            · skip
              have h69 := (tl_lt (show (nI j - nI 1).toInt = ((j : Int) - 1) from (tl_predv (by omega))) (show (nI 1).toInt = ((1 : Nat) : Int) from (nI_toInt (by omega)))).mp h69
              refine lv_aload_n hx hb dX0_putDigits_108 rfl (lv_at hl 0 rfl) ?_
              refine va_get (D := (dC, dI)) (ci := 0) (v := .int (nI (n - (a - a) + (dg_m x)))) (C := RX0) (T := TX0) (N := 4) hx hb hts hinX0 hown hK hP 0 rfl rfl 2 (by decide) (hts _ (List.mem_cons_of_mem _ k39)) (fun _ h9 => h9) rfl dX0_putDigits_109 ?_
              subst hQ
              exact W.iret (v := nI (n - (a - a) + (dg_m x))) hx hb hr (fun t ht hW => ⟨⟨nI (n - (a - a) + (dg_m x)), (n - (a - a) + (dg_m x), F, k, G), rfl, (by unfold sp_put; rw [if_pos (by omega)]; exact ⟨rfl, tE_mk (fun i hi => hF i hi (by omega)) hG (by omega) hk⟩), by rw [ht]; exact hP, va_K.moved hW.alike hK, hD⟩, hS.F ht⟩) hS.2.2 dX0_putDigits_112
            · skip
              have h69 := (not_congr (tl_lt (show (nI j - nI 1).toInt = ((j : Int) - 1) from (tl_predv (by omega))) (show (nI 1).toInt = ((1 : Nat) : Int) from (nI_toInt (by omega))))).mp h69
              obtain ⟨i, rfl⟩ : ∃ i, j = i + 1 := ⟨j - 1, by omega⟩
              rw [show nI (i + 1) - nI 1 = nI i from pk_sub (by omega)] at hl
              have hl : lv_has ls 9 [(0, .ref h0), (1, .int (nI a)), (4, .int (nI 1)), (5, .int (nI (dg_m x))), (6, .long y), (8, .int (nI i))] := hl
              refine lv_aload_n hx hb dX0_putDigits_72 rfl (lv_at hl 0 rfl) ?_
              refine va_get (D := (dC, dI)) (ci := 0) (v := .ref q0) (C := RX0) (T := TX0) (N := 4) hx hb hts hinX0 hown hK hP 0 rfl rfl 0 (by decide) (hts _ (List.mem_cons_of_mem _ k37)) (fun _ h9 => h9) rfl dX0_putDigits_73 ?_
              refine lv_iload_n hx hb dX0_putDigits_76 rfl (lv_at hl 1 rfl) ?_
              refine lv_iload hx hb dX0_putDigits_77 (lv_at hl 5 rfl) ?_
              refine lv_iadd hx hb dX0_putDigits_79 ?_
              refine tl_top (nI_add _ _) ?_
              refine lv_bipush (v := nI 48) hx hb dX0_putDigits_80 (by decide) ?_
              refine lv_lload hx hb dX0_putDigits_82 (lv_at hl 4 rfl) ?_
              refine lv_ldc2 (v := (10 : Int64)) hx hb hown (hts _ (List.mem_cons_of_mem _ k76)) dX0_putDigits_84 ?_
              refine lv_lrem hx hb dX0_putDigits_87 (by decide) ?_
              refine lv_l2i hx hb dX0_putDigits_88 rfl ?_
              refine va_mabs hx hb (hml.trans hl.1.symm) hown (hts _ (List.mem_cons_of_mem _ k88)) (hts _ (List.mem_cons_of_mem _ k89)) (hts _ (List.mem_cons_of_mem _ k24)) (hts _ (List.mem_cons_of_mem _ k90)) (Nat.le_of_ble_eq_true rfl) (Nat.le_of_ble_eq_true rfl) (Nat.zero_le _) (Nat.zero_le _) dX0_putDigits_89 ?_
              refine tl_top (y := nI (x.toInt.natAbs / 10 ^ (dg_m x - (i + 1)) % 10)) (dg_dig hy) ?_
              refine lv_iadd hx hb dX0_putDigits_92 ?_
              refine tl_top (nI_add _ _) ?_
              refine tl_iast hx hb hK hP hD hS 1 0 rfl rfl (by omega) (by decide) dX0_putDigits_93 (fun H locs hP hD hS => ?_)
              have hP : va_P (dC, dI) vwCl [(h0, .inr (0, [.ref q0, .ref q1, .int (nI (n - (a - a) + (dg_m x))), .int (nI k)])), (q0, .inl (cA, 3000, .inl (upd F (a + i) (nI (48 + (x.toInt.natAbs / 10 ^ (dg_m x - (i + 1)) % 10)))))), (q1, .inl (cB, 40, .inl G))] H := hP
              have hD : va_D A [(h0, .inr (0, [.ref q0, .ref q1, .int (nI (n - (a - a) + (dg_m x))), .int (nI k)])), (q0, .inl (cA, 3000, .inl (upd F (a + i) (nI (48 + (x.toInt.natAbs / 10 ^ (dg_m x - (i + 1)) % 10)))))), (q1, .inl (cB, 40, .inl G))] := hD
              refine lv_lload hx hb dX0_putDigits_94 (lv_at hl 4 rfl) ?_
              refine lv_ldc2 (v := (10 : Int64)) hx hb hown (hts _ (List.mem_cons_of_mem _ k76)) dX0_putDigits_96 ?_
              refine lv_ldiv hx hb dX0_putDigits_99 (by decide) ?_
              refine lv_lstore (lv' := [(6, .long (y / ((10 : Int64)))), (0, .ref h0), (1, .int (nI a)), (4, .int (nI 1)), (5, .int (nI (dg_m x))), (8, .int (nI i))]) hx hb dX0_putDigits_100 hl (by decide) rfl (fun ls hl => ?_)
              refine lv_iinc (lv' := [(8, .int (nI i - nI 1)), (6, .long (y / ((10 : Int64)))), (0, .ref h0), (1, .int (nI a)), (4, .int (nI 1)), (5, .int (nI (dg_m x)))]) (k := 5) (v := nI i - nI 1) hx hb dX0_putDigits_102 hl rfl (tl_dec i) (by decide) rfl (fun ls hl => ?_)
              refine lv_goto (tgt := 65) hx hb dX0_putDigits_105 rfl ?_
              exact ih i (y / (10 : Int64)) (upd F (a + i) (nI (48 + (x.toInt.natAbs / 10 ^ (dg_m x - (i + 1)) % 10)))) _ _ ls (by omega) (by omega) (by omega) (dg_down hy (by omega)) (pu_dgsn (by omega) (by omega) (by omega) hF) (lv_sub hl [2, 3, 4, 5, 1, 0] rfl) hP hD hS
        exact LP65 _ (dg_m x) x (upd (va_cpy T T a (a + (dg_m x)) (n - a)) a (nI 45)) _ _ ls (Nat.lt_succ_self _) (by omega) (by omega) (by rw [Nat.sub_self, Nat.pow_zero, Nat.div_one]) (pu_dg0n hT han (by omega)) (lv_sub hl [4, 5, 3, 2, 1, 0] rfl) hP hD hS
    · skip
      have h28 := (tl_b0 w25).mp h28
      refine lv_bipush (v := (-3 : Int32)) hx hb dX0_putDigits_31 (by decide) ?_
      subst hQ
      exact W.iret (v := (-3 : Int32)) hx hb hr (fun t ht hW => ⟨⟨(-3 : Int32), (n, T, k, G), rfl, (by unfold sp_put; rw [if_neg (by omega)]; exact ⟨rfl, tE_mk hT hG hn hk⟩), by rw [ht]; exact hP, va_K.moved hW.alike hK, hD⟩, hS.F ht⟩) hS.2.2 dX0_putDigits_33
