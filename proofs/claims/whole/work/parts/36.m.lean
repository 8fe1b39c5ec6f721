set_option maxHeartbeats 4000000 in
set_option maxRecDepth 100000 in
theorem c_M_letters (l : Launch) (dC : Nat → ClassId) (dI : Nat → Nat → Nat) (h0 q0 q1 q2 sz n k : Nat) (cA cB cC : ClassId) (T G T0 G0 : Nat → Int32) (hT : ∀ j, j < n → T j = T0 j) (hG : ∀ j, j < k → G j = G0 j) (hn : n ≤ 3000) (hk : k ≤ 40) (E : Nat → Int32) (d : Int32) (x : Int32) (tY tN : Nat) : Met l yX1_letters wsX1_letters ({ frames := 1, cells := 0, slots := 0, locals := 21 } : Room) (va_Pc [.ref h0, .int x] (fun U => U.heap.size = sz ∧ va_P (dC, dI) vwCl [(h0, .inr (1, [.ref q0, .ref q1, .ref q2, .int (nI n), .int (nI k), .int d])), (q0, .inl (cA, 3000, .inl T)), (q1, .inl (cB, 40, .inl G)), (q2, .inl (cC, 20, .inl E))] U.heap ∧ va_K (dC, dI) vwCl [(cA, .int), (cB, .int), (cC, .int)] U ∧ va_D (fun _ => True) [(h0, .inr (1, [.ref q0, .ref q1, .ref q2, .int (nI n), .int (nI k), .int d])), (q0, .inl (cA, 3000, .inl T)), (q1, .inl (cB, 40, .inl G)), (q2, .inl (cC, 20, .inl E))] ∧ mK tY tN (va_A [(h0, .inr (1, [.ref q0, .ref q1, .ref q2, .int (nI n), .int (nI k), .int d])), (q0, .inl (cA, 3000, .inl T)), (q1, .inl (cB, 40, .inl G)), (q2, .inl (cC, 20, .inl E))] sz) U U.heap)) (va_Qi (fun (r : Int32) (u : tM) => r = (if x.toInt = 0 then sp_put n n tl_no 5 n T0 k G0 else sp_put n n tl_yes 4 n T0 k G0).1 ∧ tE u.1 (if x.toInt = 0 then sp_put n n tl_no 5 n T0 k G0 else sp_put n n tl_yes 4 n T0 k G0).2) (at_M dC dI (va_A [(h0, .inr (1, [.ref q0, .ref q1, .ref q2, .int (nI n), .int (nI k), .int d])), (q0, .inl (cA, 3000, .inl T)), (q1, .inl (cB, 40, .inl G)), (q2, .inl (cC, 20, .inl E))] sz) h0 q0 q1 q2 cA cB cC) (va_A [(h0, .inr (1, [.ref q0, .ref q1, .ref q2, .int (nI n), .int (nI k), .int d])), (q0, .inl (cA, 3000, .inl T)), (q1, .inl (cB, 40, .inl G)), (q2, .inl (cC, 20, .inl E))] sz)) 0 0 (va_A [(h0, .inr (1, [.ref q0, .ref q1, .ref q2, .int (nI n), .int (nI k), .int d])), (q0, .inl (cA, 3000, .inl T)), (q1, .inl (cB, 40, .inl G)), (q2, .inl (cC, 20, .inl E))] sz) := by
  refine Met.ofW (cc := cX1_letters) (maxL := 6) (ret := (some .int)) (by decide) rfl ?_
  intro p e s m args below meth c s₁ B hml hv
  obtain ⟨rfl, hsz, hP, hK, hD0, hM⟩ := hv
  have hx := B.exec
  have hb := B.bytes
  have hr := B.returns
  have hts := atoms_spec (ws := wsX1_letters) B.pre
  have hown : s.vm.findClass RX1 = some m.cls := findClass_of_methodNamed B.named
  have hlocks := B.notSynchronized
  subst hsz
  have hD := hD0.self (sz := s.heap.size)
  generalize hAe : va_A [(h0, .inr (1, [.ref q0, .ref q1, .ref q2, .int (nI n), .int (nI k), .int d])), (q0, .inl (cA, 3000, .inl T)), (q1, .inl (cB, 40, .inl G)), (q2, .inl (cC, 20, .inl E))] s.heap.size = A at hD hM ⊢
  have hA : ∀ q : Nat, s.heap.size ≤ q → A q := fun q h => by rw [← hAe]; exact Or.inr h
  have hS : va_S A s.heap s.heap [] := va_S.rf
  have hP : va_P (dC, dI) vwCl [(h0, .inr (1, [.ref q0, .ref q1, .ref q2, .int (nI n), .int (nI k), .int d])), (q0, .inl (cA, 3000, .inl T)), (q1, .inl (cB, 40, .inl G)), (q2, .inl (cC, 20, .inl E))] s.heap := hP
  have hinX1 : ∀ w ∈ u_ws RX1 TX1 6, w ∈ wsX1_letters := fun w h => List.mem_cons_of_mem _ (inX1 w h)
  have hl := lv_entry ([.ref h0, .int x]) (n := 6) (Nat.le_of_ble_eq_true rfl)
  rw [lg_entry_eq]
  generalize (lg_sl ([.ref h0, .int x]) ++ List.replicate (6 - (lg_sl ([.ref h0, .int x])).length) Slot.unset).toArray = ls at hl ⊢
  have hl : lv_has ls 6 [(0, .ref h0), (1, .int x)] := hl
  refine tl_q (fun Q hQ => ?_)
  refine lv_iload_n hx hb dX1_letters_0 rfl (lv_at hl 1 rfl) ?_
  refine lv_if_eq (tgt := 8) hx hb dX1_letters_1 rfl (fun h1 => ?_) (fun h1 => ?_)
  · skip
    have h1 := (tl_eq (show x.toInt = x.toInt from rfl) (show (0 : Int32).toInt = (0 : Int) from Int32.toInt_zero)).mp h1
    refine lv_iconst (v := nI 5) hx hb dX1_letters_8 (by decide) ?_
    refine lv_istore_n (lv' := [(2, .int (nI 5)), (0, .ref h0), (1, .int x)]) hx hb dX1_letters_9 rfl hl (by decide) rfl (fun ls hl => ?_)
    refine lv_aload_n hx hb dX1_letters_10 rfl (lv_at hl 1 rfl) ?_
    refine va_get (D := (dC, dI)) (ci := 1) (v := .int (nI n)) (C := RX1) (T := TX1) (N := 6) hx hb hts hinX1 hown hK hP 0 rfl rfl 3 (by decide) (hts _ (List.mem_cons_of_mem _ k248)) (fun _ h9 => h9) rfl dX1_letters_11 ?_
    refine lv_istore_n (lv' := [(3, .int (nI n)), (2, .int (nI 5)), (0, .ref h0), (1, .int x)]) hx hb dX1_letters_14 rfl hl (by decide) rfl (fun ls hl => ?_)
    refine lv_aload_n hx hb dX1_letters_15 rfl (lv_at hl 2 rfl) ?_
    refine lv_iload_n hx hb dX1_letters_16 rfl (lv_at hl 1 rfl) ?_
    have ea17_0 : (nI 5).toInt = (5 : Int) := (by decide)
    refine vp_callSi ((va_runV (As := [.int (nI 5)]) (rest := []) ⟨hx, hb, hml, hown, hts⟩ (c_M_full l dC dI h0 q0 q1 q2 n k cA cB cC T G T0 G0 hT hG (by omega) hk E d (nI 5) (by omega) (by omega)) (cwV 1 hts (gV_ (fun w h => List.mem_cons_of_mem _ h) k299 k301 k14 k22 k302) rfl rfl rfl (by decide +kernel) ⟨Nat.le_of_ble_eq_true rfl, Nat.le_of_ble_eq_true rfl⟩) ⟨fun a U g mk q => by obtain ⟨q0, qP, qK⟩ := q; exact ⟨q0, qP, va_K.moved (u := U) (U := U.calling g mk a) (Vm.Alike.refl U.vm) qK⟩, va_recv hK hP (ci := 1) (q0 := 0) rfl rfl, fun U hU hW => ⟨rfl, by rw [hU]; exact hP, va_K.moved hW.alike hK⟩⟩ rfl rfl hl.1 rfl (lv_room (Nat.le_of_ble_eq_true rfl)) dX1_letters_17 ⟨Nat.le_of_ble_eq_true rfl, Nat.le_of_ble_eq_true rfl⟩).run) (fun r17 w17 => ?_)
    try dsimp only at w17
    refine lv_if_eq (tgt := 26) hx hb dX1_letters_20 rfl (fun h20 => ?_) (fun h20 => ?_)
    · skip
      have h20 := (tl_b0 w17).mp h20
      refine lv_aload_n hx hb dX1_letters_26 rfl (lv_at hl 2 rfl) ?_
      refine lv_dup hx hb dX1_letters_27 rfl ?_
      refine va_get (D := (dC, dI)) (ci := 1) (v := .int (nI n)) (C := RX1) (T := TX1) (N := 6) hx hb hts hinX1 hown hK hP 0 rfl rfl 3 (by decide) (hts _ (List.mem_cons_of_mem _ k248)) (fun _ h9 => h9) rfl dX1_letters_28 ?_
      refine lv_iload_n hx hb dX1_letters_31 rfl (lv_at hl 1 rfl) ?_
      refine lv_iadd hx hb dX1_letters_32 ?_
      refine tl_top (nI_add _ _) ?_
      refine va_put (D := (dC, dI)) (ci := 1) (v := .int (nI (n + 5))) (ty := .int) (C := RX1) (T := TX1) (N := 6) hx hb hts hinX1 tyX1 tyX1_ok nmX1 hown hK hP hD hS 0 rfl rfl 3 (by decide) (hts _ (List.mem_cons_of_mem _ k248)) (fun _ h9 => h9) rfl (by decide +kernel) rfl rfl (Nat.le_of_ble_eq_true rfl) dX1_letters_33 (fun H locs hP hD hS => ?_)
      have hP : va_P (dC, dI) vwCl [(h0, .inr (1, [.ref q0, .ref q1, .ref q2, .int (nI (n + 5)), .int (nI k), .int d])), (q0, .inl (cA, 3000, .inl T)), (q1, .inl (cB, 40, .inl G)), (q2, .inl (cC, 20, .inl E))] H := hP
      have hD : va_D A [(h0, .inr (1, [.ref q0, .ref q1, .ref q2, .int (nI (n + 5)), .int (nI k), .int d])), (q0, .inl (cA, 3000, .inl T)), (q1, .inl (cB, 40, .inl G)), (q2, .inl (cC, 20, .inl E))] := hD
      refine lv_iload_n hx hb dX1_letters_36 rfl (lv_at hl 3 rfl) ?_
      refine lv_if_eq (tgt := 46) hx hb dX1_letters_37 rfl (fun h37 => ?_) (fun h37 => ?_)
      · skip
        have h37 := (tl_eq (show x.toInt = x.toInt from rfl) (show (0 : Int32).toInt = (0 : Int) from Int32.toInt_zero)).mp h37
        refine va_gets hx hb hM.2.2.1 hS hown (hts _ (List.mem_cons_of_mem _ k313)) (fun _ h9 => h9) dX1_letters_46 ?_
        refine lv_astore (lv' := [(4, .ref tN), (3, .int (nI n)), (2, .int (nI 5)), (0, .ref h0), (1, .int x)]) hx hb dX1_letters_49 hl (by decide) rfl (fun ls hl => ?_)
        refine lv_iconst (v := nI 0) hx hb dX1_letters_51 (by decide) ?_
        refine lv_istore (lv' := [(5, .int (nI 0)), (4, .ref tN), (3, .int (nI n)), (2, .int (nI 5)), (0, .ref h0), (1, .int x)]) hx hb dX1_letters_52 hl (by decide) rfl (fun ls hl => ?_)
        have LP54 : ∀ (fu : Nat) (j : Nat) (F : Nat → Int32) (H : Heap) (locs : List Loc) (ls : Array Slot), 5 - j < fu → j ≤ 5 → (∀ i, i < n + 5 → (i < n + j ∨ n + 5 ≤ i) → F i = tl_rep T0 n n tl_no 5 i) → lv_has ls 6 [(0, .ref h0), (2, .int (nI 5)), (3, .int (nI n)), (4, .ref tN), (5, .int (nI j))] → va_P (dC, dI) vwCl [(h0, .inr (1, [.ref q0, .ref q1, .ref q2, .int (nI (n + 5)), .int (nI k), .int d])), (q0, .inl (cA, 3000, .inl F)), (q1, .inl (cB, 40, .inl G)), (q2, .inl (cC, 20, .inl E))] H → va_D A [(h0, .inr (1, [.ref q0, .ref q1, .ref q2, .int (nI (n + 5)), .int (nI k), .int d])), (q0, .inl (cA, 3000, .inl F)), (q1, .inl (cB, 40, .inl G)), (q2, .inl (cC, 20, .inl E))] → va_S A s.heap H locs → W p l e (headSpec wsX1_letters ({ frames := 1, cells := 0, slots := 0, locals := 21 } : Room)).room s m ([.ref h0, .int x] : List Value).toArray below meth c H locs 0 0 Q (F0 m 54 ls []) := by
          intro fu
          induction fu with
          | zero => intro j F H locs ls hfu; exact absurd hfu (Nat.not_lt_zero _)
          | succ fu ih =>
            intro j F H locs ls hfu hj hF hl hP hD hS
            refine lv_iload hx hb dX1_letters_54 (lv_at hl 4 rfl) ?_
            refine lv_iload_n hx hb dX1_letters_56 rfl (lv_at hl 1 rfl) ?_
            refine lv_icmp_ge (tgt := 80) hx hb dX1_letters_57 rfl (fun h57 => ?_) (fun h57 => ?_)
            · skip
              have h57 := (tl_le (show (nI 5).toInt = ((5 : Nat) : Int) from (nI_toInt (by omega))) (show (nI j).toInt = ((j : Nat) : Int) from (nI_toInt (by omega)))).mp h57
              refine lv_aload_n hx hb dX1_letters_80 rfl (lv_at hl 0 rfl) ?_
              refine va_get (D := (dC, dI)) (ci := 1) (v := .int (nI (n + 5))) (C := RX1) (T := TX1) (N := 6) hx hb hts hinX1 hown hK hP 0 rfl rfl 3 (by decide) (hts _ (List.mem_cons_of_mem _ k248)) (fun _ h9 => h9) rfl dX1_letters_81 ?_
              subst hQ
              exact W.iret (v := nI (n + 5)) hx hb hr (fun t ht hW => ⟨⟨nI (n + 5), ((n + 5, F, k, G), E, d), rfl, (by rw [if_pos h1]; unfold sp_put; rw [if_pos (by omega), Nat.sub_self, Nat.sub_zero]; exact ⟨rfl, tE_mk (fun i hi => hF i hi (by omega)) hG (by omega) hk⟩), by rw [ht]; exact hP, va_K.moved hW.alike hK, hD⟩, hS.F ht⟩) hS.2.2 dX1_letters_84
            · skip
              have h57 := (not_congr (tl_le (show (nI 5).toInt = ((5 : Nat) : Int) from (nI_toInt (by omega))) (show (nI j).toInt = ((j : Nat) : Int) from (nI_toInt (by omega))))).mp h57
              refine lv_aload_n hx hb dX1_letters_60 rfl (lv_at hl 0 rfl) ?_
              refine va_get (D := (dC, dI)) (ci := 1) (v := .ref q0) (C := RX1) (T := TX1) (N := 6) hx hb hts hinX1 hown hK hP 0 rfl rfl 0 (by decide) (hts _ (List.mem_cons_of_mem _ k245)) (fun _ h9 => h9) rfl dX1_letters_61 ?_
              refine lv_iload_n hx hb dX1_letters_64 rfl (lv_at hl 2 rfl) ?_
              refine lv_iload hx hb dX1_letters_65 (lv_at hl 4 rfl) ?_
              refine lv_iadd hx hb dX1_letters_67 ?_
              refine tl_top (nI_add _ _) ?_
              refine lv_aload hx hb dX1_letters_68 (lv_at hl 3 rfl) ?_
              refine lv_iload hx hb dX1_letters_70 (lv_at hl 4 rfl) ?_
              refine va_ti (v := .int (tl_no j)) hx hb hM.2.2.2 hS (vp_in_nI (by omega) (by omega)) (by rw [nI_clamp (by omega)]) dX1_letters_72 ?_
              refine tl_iast hx hb hK hP hD hS 1 0 rfl rfl (by omega) (by decide) dX1_letters_73 (fun H locs hP hD hS => ?_)
              have hP : va_P (dC, dI) vwCl [(h0, .inr (1, [.ref q0, .ref q1, .ref q2, .int (nI (n + 5)), .int (nI k), .int d])), (q0, .inl (cA, 3000, .inl (upd F (n + j) (tl_no j)))), (q1, .inl (cB, 40, .inl G)), (q2, .inl (cC, 20, .inl E))] H := hP
              have hD : va_D A [(h0, .inr (1, [.ref q0, .ref q1, .ref q2, .int (nI (n + 5)), .int (nI k), .int d])), (q0, .inl (cA, 3000, .inl (upd F (n + j) (tl_no j)))), (q1, .inl (cB, 40, .inl G)), (q2, .inl (cC, 20, .inl E))] := hD
              refine lv_iinc (lv' := [(5, .int (nI (j + 1))), (0, .ref h0), (2, .int (nI 5)), (3, .int (nI n)), (4, .ref tN)]) (k := 4) (v := nI (j + 1)) hx hb dX1_letters_74 hl rfl (tl_inc1 _) (by decide) rfl (fun ls hl => ?_)
              refine lv_goto (tgt := 54) hx hb dX1_letters_77 rfl ?_
              exact ih (j + 1) (upd F (n + j) (tl_no j)) _ _ ls (by omega) (by omega) (pm_puts (by omega) hF) (lv_sub hl [1, 2, 3, 4, 0] rfl) hP hD hS
        exact LP54 _ 0 T _ _ ls (Nat.lt_succ_self _) (by omega) (pm_let0 hT) (lv_sub hl [4, 3, 2, 1, 0] rfl) hP hD hS
      · skip
        have h37 := (not_congr (tl_eq (show x.toInt = x.toInt from rfl) (show (0 : Int32).toInt = (0 : Int) from Int32.toInt_zero))).mp h37
        exfalso; omega
    · skip
      have h20 := (tl_b1 w17).mp h20
      refine lv_bipush (v := (-3 : Int32)) hx hb dX1_letters_23 (by decide) ?_
      subst hQ
      exact W.iret (v := (-3 : Int32)) hx hb hr (fun t ht hW => ⟨⟨(-3 : Int32), ((n, T, k, G), E, d), rfl, (by rw [if_pos h1]; unfold sp_put; rw [if_neg (by omega)]; exact ⟨rfl, tE_mk hT hG hn hk⟩), by rw [ht]; exact hP, va_K.moved hW.alike hK, hD⟩, hS.F ht⟩) hS.2.2 dX1_letters_25
  · skip
    have h1 := (not_congr (tl_eq (show x.toInt = x.toInt from rfl) (show (0 : Int32).toInt = (0 : Int) from Int32.toInt_zero))).mp h1
    refine lv_iconst (v := nI 4) hx hb dX1_letters_4 (by decide) ?_
    refine lv_goto (tgt := 9) hx hb dX1_letters_5 rfl ?_
    refine lv_istore_n (lv' := [(2, .int (nI 4)), (0, .ref h0), (1, .int x)]) hx hb dX1_letters_9 rfl hl (by decide) rfl (fun ls hl => ?_)
    refine lv_aload_n hx hb dX1_letters_10 rfl (lv_at hl 1 rfl) ?_
    refine va_get (D := (dC, dI)) (ci := 1) (v := .int (nI n)) (C := RX1) (T := TX1) (N := 6) hx hb hts hinX1 hown hK hP 0 rfl rfl 3 (by decide) (hts _ (List.mem_cons_of_mem _ k248)) (fun _ h9 => h9) rfl dX1_letters_11 ?_
    refine lv_istore_n (lv' := [(3, .int (nI n)), (2, .int (nI 4)), (0, .ref h0), (1, .int x)]) hx hb dX1_letters_14 rfl hl (by decide) rfl (fun ls hl => ?_)
    refine lv_aload_n hx hb dX1_letters_15 rfl (lv_at hl 2 rfl) ?_
    refine lv_iload_n hx hb dX1_letters_16 rfl (lv_at hl 1 rfl) ?_
    have ea17_0 : (nI 4).toInt = (4 : Int) := (by decide)
    refine vp_callSi ((va_runV (As := [.int (nI 4)]) (rest := []) ⟨hx, hb, hml, hown, hts⟩ (c_M_full l dC dI h0 q0 q1 q2 n k cA cB cC T G T0 G0 hT hG (by omega) hk E d (nI 4) (by omega) (by omega)) (cwV 1 hts (gV_ (fun w h => List.mem_cons_of_mem _ h) k299 k301 k14 k22 k302) rfl rfl rfl (by decide +kernel) ⟨Nat.le_of_ble_eq_true rfl, Nat.le_of_ble_eq_true rfl⟩) ⟨fun a U g mk q => by obtain ⟨q0, qP, qK⟩ := q; exact ⟨q0, qP, va_K.moved (u := U) (U := U.calling g mk a) (Vm.Alike.refl U.vm) qK⟩, va_recv hK hP (ci := 1) (q0 := 0) rfl rfl, fun U hU hW => ⟨rfl, by rw [hU]; exact hP, va_K.moved hW.alike hK⟩⟩ rfl rfl hl.1 rfl (lv_room (Nat.le_of_ble_eq_true rfl)) dX1_letters_17 ⟨Nat.le_of_ble_eq_true rfl, Nat.le_of_ble_eq_true rfl⟩).run) (fun r17 w17 => ?_)
    try dsimp only at w17
    refine lv_if_eq (tgt := 26) hx hb dX1_letters_20 rfl (fun h20 => ?_) (fun h20 => ?_)
    · skip
      have h20 := (tl_b0 w17).mp h20
      refine lv_aload_n hx hb dX1_letters_26 rfl (lv_at hl 2 rfl) ?_
      refine lv_dup hx hb dX1_letters_27 rfl ?_
      refine va_get (D := (dC, dI)) (ci := 1) (v := .int (nI n)) (C := RX1) (T := TX1) (N := 6) hx hb hts hinX1 hown hK hP 0 rfl rfl 3 (by decide) (hts _ (List.mem_cons_of_mem _ k248)) (fun _ h9 => h9) rfl dX1_letters_28 ?_
      refine lv_iload_n hx hb dX1_letters_31 rfl (lv_at hl 1 rfl) ?_
      refine lv_iadd hx hb dX1_letters_32 ?_
      refine tl_top (nI_add _ _) ?_
      refine va_put (D := (dC, dI)) (ci := 1) (v := .int (nI (n + 4))) (ty := .int) (C := RX1) (T := TX1) (N := 6) hx hb hts hinX1 tyX1 tyX1_ok nmX1 hown hK hP hD hS 0 rfl rfl 3 (by decide) (hts _ (List.mem_cons_of_mem _ k248)) (fun _ h9 => h9) rfl (by decide +kernel) rfl rfl (Nat.le_of_ble_eq_true rfl) dX1_letters_33 (fun H locs hP hD hS => ?_)
      have hP : va_P (dC, dI) vwCl [(h0, .inr (1, [.ref q0, .ref q1, .ref q2, .int (nI (n + 4)), .int (nI k), .int d])), (q0, .inl (cA, 3000, .inl T)), (q1, .inl (cB, 40, .inl G)), (q2, .inl (cC, 20, .inl E))] H := hP
      have hD : va_D A [(h0, .inr (1, [.ref q0, .ref q1, .ref q2, .int (nI (n + 4)), .int (nI k), .int d])), (q0, .inl (cA, 3000, .inl T)), (q1, .inl (cB, 40, .inl G)), (q2, .inl (cC, 20, .inl E))] := hD
      refine lv_iload_n hx hb dX1_letters_36 rfl (lv_at hl 3 rfl) ?_
      refine lv_if_eq (tgt := 46) hx hb dX1_letters_37 rfl (fun h37 => ?_) (fun h37 => ?_)
      · skip
        have h37 := (tl_eq (show x.toInt = x.toInt from rfl) (show (0 : Int32).toInt = (0 : Int) from Int32.toInt_zero)).mp h37
        exfalso; omega
      · skip
        have h37 := (not_congr (tl_eq (show x.toInt = x.toInt from rfl) (show (0 : Int32).toInt = (0 : Int) from Int32.toInt_zero))).mp h37
        refine va_gets hx hb hM.1 hS hown (hts _ (List.mem_cons_of_mem _ k311)) (fun _ h9 => h9) dX1_letters_40 ?_
        refine lv_goto (tgt := 49) hx hb dX1_letters_43 rfl ?_
        refine lv_astore (lv' := [(4, .ref tY), (3, .int (nI n)), (2, .int (nI 4)), (0, .ref h0), (1, .int x)]) hx hb dX1_letters_49 hl (by decide) rfl (fun ls hl => ?_)
        refine lv_iconst (v := nI 0) hx hb dX1_letters_51 (by decide) ?_
        refine lv_istore (lv' := [(5, .int (nI 0)), (4, .ref tY), (3, .int (nI n)), (2, .int (nI 4)), (0, .ref h0), (1, .int x)]) hx hb dX1_letters_52 hl (by decide) rfl (fun ls hl => ?_)
        have LP54 : ∀ (fu : Nat) (j : Nat) (F : Nat → Int32) (H : Heap) (locs : List Loc) (ls : Array Slot), 4 - j < fu → j ≤ 4 → (∀ i, i < n + 4 → (i < n + j ∨ n + 4 ≤ i) → F i = tl_rep T0 n n tl_yes 4 i) → lv_has ls 6 [(0, .ref h0), (2, .int (nI 4)), (3, .int (nI n)), (4, .ref tY), (5, .int (nI j))] → va_P (dC, dI) vwCl [(h0, .inr (1, [.ref q0, .ref q1, .ref q2, .int (nI (n + 4)), .int (nI k), .int d])), (q0, .inl (cA, 3000, .inl F)), (q1, .inl (cB, 40, .inl G)), (q2, .inl (cC, 20, .inl E))] H → va_D A [(h0, .inr (1, [.ref q0, .ref q1, .ref q2, .int (nI (n + 4)), .int (nI k), .int d])), (q0, .inl (cA, 3000, .inl F)), (q1, .inl (cB, 40, .inl G)), (q2, .inl (cC, 20, .inl E))] → va_S A s.heap H locs → W p l e (headSpec wsX1_letters ({ frames := 1, cells := 0, slots := 0, locals := 21 } : Room)).room s m ([.ref h0, .int x] : List Value).toArray below meth c H locs 0 0 Q (F0 m 54 ls []) := by
          intro fu
          induction fu with
          | zero => intro j F H locs ls hfu; exact absurd hfu (Nat.not_lt_zero _)
          | succ fu ih =>
            intro j F H locs ls hfu hj hF hl hP hD hS
            refine lv_iload hx hb dX1_letters_54 (lv_at hl 4 rfl) ?_
            refine lv_iload_n hx hb dX1_letters_56 rfl (lv_at hl 1 rfl) ?_
            refine lv_icmp_ge (tgt := 80) hx hb dX1_letters_57 rfl (fun h57 => ?_) (fun h57 => ?_)
            · skip
              have h57 := (tl_le (show (nI 4).toInt = ((4 : Nat) : Int) from (nI_toInt (by omega))) (show (nI j).toInt = ((j : Nat) : Int) from (nI_toInt (by omega)))).mp h57
              refine lv_aload_n hx hb dX1_letters_80 rfl (lv_at hl 0 rfl) ?_
              refine va_get (D := (dC, dI)) (ci := 1) (v := .int (nI (n + 4))) (C := RX1) (T := TX1) (N := 6) hx hb hts hinX1 hown hK hP 0 rfl rfl 3 (by decide) (hts _ (List.mem_cons_of_mem _ k248)) (fun _ h9 => h9) rfl dX1_letters_81 ?_
              subst hQ
              exact W.iret (v := nI (n + 4)) hx hb hr (fun t ht hW => ⟨⟨nI (n + 4), ((n + 4, F, k, G), E, d), rfl, (by rw [if_neg h1]; unfold sp_put; rw [if_pos (by omega), Nat.sub_self, Nat.sub_zero]; exact ⟨rfl, tE_mk (fun i hi => hF i hi (by omega)) hG (by omega) hk⟩), by rw [ht]; exact hP, va_K.moved hW.alike hK, hD⟩, hS.F ht⟩) hS.2.2 dX1_letters_84
            · skip
              have h57 := (not_congr (tl_le (show (nI 4).toInt = ((4 : Nat) : Int) from (nI_toInt (by omega))) (show (nI j).toInt = ((j : Nat) : Int) from (nI_toInt (by omega))))).mp h57
              refine lv_aload_n hx hb dX1_letters_60 rfl (lv_at hl 0 rfl) ?_
              refine va_get (D := (dC, dI)) (ci := 1) (v := .ref q0) (C := RX1) (T := TX1) (N := 6) hx hb hts hinX1 hown hK hP 0 rfl rfl 0 (by decide) (hts _ (List.mem_cons_of_mem _ k245)) (fun _ h9 => h9) rfl dX1_letters_61 ?_
              refine lv_iload_n hx hb dX1_letters_64 rfl (lv_at hl 2 rfl) ?_
              refine lv_iload hx hb dX1_letters_65 (lv_at hl 4 rfl) ?_
              refine lv_iadd hx hb dX1_letters_67 ?_
              refine tl_top (nI_add _ _) ?_
              refine lv_aload hx hb dX1_letters_68 (lv_at hl 3 rfl) ?_
              refine lv_iload hx hb dX1_letters_70 (lv_at hl 4 rfl) ?_
              refine va_ti (v := .int (tl_yes j)) hx hb hM.2.1 hS (vp_in_nI (by omega) (by omega)) (by rw [nI_clamp (by omega)]) dX1_letters_72 ?_
              refine tl_iast hx hb hK hP hD hS 1 0 rfl rfl (by omega) (by decide) dX1_letters_73 (fun H locs hP hD hS => ?_)
              have hP : va_P (dC, dI) vwCl [(h0, .inr (1, [.ref q0, .ref q1, .ref q2, .int (nI (n + 4)), .int (nI k), .int d])), (q0, .inl (cA, 3000, .inl (upd F (n + j) (tl_yes j)))), (q1, .inl (cB, 40, .inl G)), (q2, .inl (cC, 20, .inl E))] H := hP
              have hD : va_D A [(h0, .inr (1, [.ref q0, .ref q1, .ref q2, .int (nI (n + 4)), .int (nI k), .int d])), (q0, .inl (cA, 3000, .inl (upd F (n + j) (tl_yes j)))), (q1, .inl (cB, 40, .inl G)), (q2, .inl (cC, 20, .inl E))] := hD
              refine lv_iinc (lv' := [(5, .int (nI (j + 1))), (0, .ref h0), (2, .int (nI 4)), (3, .int (nI n)), (4, .ref tY)]) (k := 4) (v := nI (j + 1)) hx hb dX1_letters_74 hl rfl (tl_inc1 _) (by decide) rfl (fun ls hl => ?_)
              refine lv_goto (tgt := 54) hx hb dX1_letters_77 rfl ?_
              exact ih (j + 1) (upd F (n + j) (tl_yes j)) _ _ ls (by omega) (by omega) (pm_puts (by omega) hF) (lv_sub hl [1, 2, 3, 4, 0] rfl) hP hD hS
        exact LP54 _ 0 T _ _ ls (Nat.lt_succ_self _) (by omega) (pm_let0 hT) (lv_sub hl [4, 3, 2, 1, 0] rfl) hP hD hS
    · skip
      have h20 := (tl_b1 w17).mp h20
      refine lv_bipush (v := (-3 : Int32)) hx hb dX1_letters_23 (by decide) ?_
      subst hQ
      exact W.iret (v := (-3 : Int32)) hx hb hr (fun t ht hW => ⟨⟨(-3 : Int32), ((n, T, k, G), E, d), rfl, (by rw [if_neg h1]; unfold sp_put; rw [if_neg (by omega)]; exact ⟨rfl, tE_mk hT hG hn hk⟩), by rw [ht]; exact hP, va_K.moved hW.alike hK, hD⟩, hS.F ht⟩) hS.2.2 dX1_letters_25
set_option maxHeartbeats 4000000 in
set_option maxRecDepth 100000 in
theorem c_M_add (l : Launch) (dC : Nat → ClassId) (dI : Nat → Nat → Nat) (h0 q0 q1 q2 sz n k : Nat) (cA cB cC : ClassId) (T G T0 G0 : Nat → Int32) (hT : ∀ j, j < n → T j = T0 j) (hG : ∀ j, j < k → G j = G0 j) (hn : n ≤ 3000) (hk : k ≤ 40) (E : Nat → Int32) (d : Int32) (x : Int32) (y : Int64) (tY tN : Nat) : Met l yX1_add wsX1_add ({ frames := 2, cells := 0, slots := 0, locals := 46 } : Room) (va_Pc [.ref h0, .int x, .long y] (fun U => U.heap.size = sz ∧ va_P (dC, dI) vwCl [(h0, .inr (1, [.ref q0, .ref q1, .ref q2, .int (nI n), .int (nI k), .int d])), (q0, .inl (cA, 3000, .inl T)), (q1, .inl (cB, 40, .inl G)), (q2, .inl (cC, 20, .inl E))] U.heap ∧ va_K (dC, dI) vwCl [(cA, .int), (cB, .int), (cC, .int)] U ∧ va_D (fun _ => True) [(h0, .inr (1, [.ref q0, .ref q1, .ref q2, .int (nI n), .int (nI k), .int d])), (q0, .inl (cA, 3000, .inl T)), (q1, .inl (cB, 40, .inl G)), (q2, .inl (cC, 20, .inl E))] ∧ mK tY tN (va_A [(h0, .inr (1, [.ref q0, .ref q1, .ref q2, .int (nI n), .int (nI k), .int d])), (q0, .inl (cA, 3000, .inl T)), (q1, .inl (cB, 40, .inl G)), (q2, .inl (cC, 20, .inl E))] sz) U U.heap)) (va_Qi (fun (r : Int32) (u : tM) => r = (sp_add x y n T0 k G0).1 ∧ tE u.1 (sp_add x y n T0 k G0).2) (at_M dC dI (va_A [(h0, .inr (1, [.ref q0, .ref q1, .ref q2, .int (nI n), .int (nI k), .int d])), (q0, .inl (cA, 3000, .inl T)), (q1, .inl (cB, 40, .inl G)), (q2, .inl (cC, 20, .inl E))] sz) h0 q0 q1 q2 cA cB cC) (va_A [(h0, .inr (1, [.ref q0, .ref q1, .ref q2, .int (nI n), .int (nI k), .int d])), (q0, .inl (cA, 3000, .inl T)), (q1, .inl (cB, 40, .inl G)), (q2, .inl (cC, 20, .inl E))] sz)) 0 0 (va_A [(h0, .inr (1, [.ref q0, .ref q1, .ref q2, .int (nI n), .int (nI k), .int d])), (q0, .inl (cA, 3000, .inl T)), (q1, .inl (cB, 40, .inl G)), (q2, .inl (cC, 20, .inl E))] sz) := by
  refine Met.ofW (cc := cX1_add) (maxL := 4) (ret := (some .int)) (by decide) rfl ?_
  intro p e s m args below meth c s₁ B hml hv
  obtain ⟨rfl, hsz, hP, hK, hD0, hM⟩ := hv
  have hx := B.exec
  have hb := B.bytes
  have hr := B.returns
  have hts := atoms_spec (ws := wsX1_add) B.pre
  have hown : s.vm.findClass RX1 = some m.cls := findClass_of_methodNamed B.named
  have hlocks := B.notSynchronized
  subst hsz
  have hD := hD0.self (sz := s.heap.size)
  generalize hAe : va_A [(h0, .inr (1, [.ref q0, .ref q1, .ref q2, .int (nI n), .int (nI k), .int d])), (q0, .inl (cA, 3000, .inl T)), (q1, .inl (cB, 40, .inl G)), (q2, .inl (cC, 20, .inl E))] s.heap.size = A at hD hM ⊢
  have hA : ∀ q : Nat, s.heap.size ≤ q → A q := fun q h => by rw [← hAe]; exact Or.inr h
  have hS : va_S A s.heap s.heap [] := va_S.rf
  have hP : va_P (dC, dI) vwCl [(h0, .inr (1, [.ref q0, .ref q1, .ref q2, .int (nI n), .int (nI k), .int d])), (q0, .inl (cA, 3000, .inl T)), (q1, .inl (cB, 40, .inl G)), (q2, .inl (cC, 20, .inl E))] s.heap := hP
  have hinX1 : ∀ w ∈ u_ws RX1 TX1 6, w ∈ wsX1_add := fun w h => List.mem_cons_of_mem _ (inX1 w h)
  have hl := lv_entry ([.ref h0, .int x, .long y]) (n := 4) (Nat.le_of_ble_eq_true rfl)
  rw [lg_entry_eq]
  generalize (lg_sl ([.ref h0, .int x, .long y]) ++ List.replicate (4 - (lg_sl ([.ref h0, .int x, .long y])).length) Slot.unset).toArray = ls at hl ⊢
  have hl : lv_has ls 4 [(0, .ref h0), (1, .int x), (2, .long y)] := hl
  refine tl_q (fun Q hQ => ?_)
  refine lv_iload_n hx hb dX1_add_0 rfl (lv_at hl 1 rfl) ?_
  have sw1 : x.toInt = x.toInt := rfl
  by_cases hs1_0 : x.toInt = 0
  · skip
    refine lv_tableIn (off := 31) (tgt := 32) hx hb dX1_add_1 (by omega) (by omega) (by rw [sw1, hs1_0]; first | done | rfl) rfl ?_
    refine lv_aload_n hx hb dX1_add_32 rfl (lv_at hl 0 rfl) ?_
    refine lv_lload_n hx hb dX1_add_33 rfl (lv_at hl 2 rfl) ?_
    have hPc := hP.sub (ws' := [(h0, .inr (1, [.ref q0, .ref q1, .ref q2, .int (nI n), .int (nI k), .int d])), (q0, .inl (cA, 3000, .inl T)), (q1, .inl (cB, 40, .inl G)), (q2, .inl (cC, 20, .inl E))]) [0, 1, 2, 3] rfl
    have hDc := hD.sub (ws' := [(h0, .inr (1, [.ref q0, .ref q1, .ref q2, .int (nI n), .int (nI k), .int d])), (q0, .inl (cA, 3000, .inl T)), (q1, .inl (cB, 40, .inl G)), (q2, .inl (cC, 20, .inl E))]) [0, 1, 2, 3] (by decide) rfl
    have hKc := hK
    have hFc := va_free (wc := [(h0, .inr (1, [.ref q0, .ref q1, .ref q2, .int (nI n), .int (nI k), .int d])), (q0, .inl (cA, 3000, .inl T)), (q1, .inl (cB, 40, .inl G)), (q2, .inl (cC, 20, .inl E))]) hD hS hA [0, 1, 2, 3] rfl
    refine va_callv (va_runV (As := [.long y]) (rest := []) ⟨hx, hb, hml, hown, hts⟩ (c_M_digits l dC dI h0 q0 q1 q2 s.heap.size n k cA cB cC T G T0 G0 hT hG (by omega) hk E d y) (cwV 1 hts (gV_ (fun w h => List.mem_cons_of_mem _ h) k290 k292 k12 k22 k293) rfl rfl rfl (by decide +kernel) ⟨Nat.le_of_ble_eq_true rfl, Nat.le_of_ble_eq_true rfl⟩) ⟨fun a U g mk q => by obtain ⟨q0, q1, qP, qK, qD⟩ := q; exact ⟨q0, q1, qP, va_K.moved (u := U) (U := U.calling g mk a) (Vm.Alike.refl U.vm) qK, qD⟩, va_recv hKc hPc (ci := 1) (q0 := 0) rfl rfl, fun U hU hW => ⟨rfl, by rw [hU], by rw [hU]; exact hPc, va_K.moved hW.alike hKc, hDc.weaken (fun _ _ _ _ => trivial)⟩⟩ rfl rfl hl.1 rfl (lv_room (Nat.le_of_ble_eq_true rfl)) dX1_add_34 ⟨Nat.le_of_ble_eq_true rfl, Nat.le_of_ble_eq_true rfl⟩) hS (fun q _ h => hFc q h) hFc (fun u34 t H locs ht hvm w34 hB hz1 hk1 hS => ?_)
    try dsimp only at w34
    obtain ⟨u1, E2, d2⟩ := u34
    obtain ⟨hu1, hu2, hE2⟩ := w34
    dsimp only at hu1 hu2 hE2
    subst hu1
    subst hu2
    have hm20 := dg_m_le y
    obtain ⟨hP1, hK1, hD1⟩ := hB
    rw [ht] at hP1
    obtain ⟨hP, hD⟩ := va_join (wr := []) (w1 := [(h0, .inr (1, [.ref q0, .ref q1, .ref q2, .int (nI n), .int (nI k), .int (nI (dg_m y))])), (q0, .inl (cA, 3000, .inl T)), (q1, .inl (cB, 40, .inl G)), (q2, .inl (cC, 20, .inl E2))]) hP hD [0, 1, 2, 3] [] rfl rfl (by decide) (by decide) hk1 hFc hP1 hD1
    have hP : va_P (dC, dI) vwCl [(h0, .inr (1, [.ref q0, .ref q1, .ref q2, .int (nI n), .int (nI k), .int (nI (dg_m y))])), (q0, .inl (cA, 3000, .inl T)), (q1, .inl (cB, 40, .inl G)), (q2, .inl (cC, 20, .inl E2))] H := hP
    have hD : va_D A [(h0, .inr (1, [.ref q0, .ref q1, .ref q2, .int (nI n), .int (nI k), .int (nI (dg_m y))])), (q0, .inl (cA, 3000, .inl T)), (q1, .inl (cB, 40, .inl G)), (q2, .inl (cC, 20, .inl E2))] := hD
    refine lv_aload_n hx hb dX1_add_37 rfl (lv_at hl 0 rfl) ?_
    refine lv_aload_n hx hb dX1_add_38 rfl (lv_at hl 0 rfl) ?_
    refine va_get (D := (dC, dI)) (ci := 1) (v := .int (nI n)) (C := RX1) (T := TX1) (N := 6) hx hb hts hinX1 hown hK hP 0 rfl rfl 3 (by decide) (hts _ (List.mem_cons_of_mem _ k248)) (fun _ h9 => h9) rfl dX1_add_39 ?_
    have hPc := hP.sub (ws' := [(h0, .inr (1, [.ref q0, .ref q1, .ref q2, .int (nI n), .int (nI k), .int (nI (dg_m y))])), (q0, .inl (cA, 3000, .inl T)), (q1, .inl (cB, 40, .inl G)), (q2, .inl (cC, 20, .inl E2))]) [0, 1, 2, 3] rfl
    have hDc := hD.sub (ws' := [(h0, .inr (1, [.ref q0, .ref q1, .ref q2, .int (nI n), .int (nI k), .int (nI (dg_m y))])), (q0, .inl (cA, 3000, .inl T)), (q1, .inl (cB, 40, .inl G)), (q2, .inl (cC, 20, .inl E2))]) [0, 1, 2, 3] (by decide) rfl
    have hKc := hK
    have hFc := va_free (wc := [(h0, .inr (1, [.ref q0, .ref q1, .ref q2, .int (nI n), .int (nI k), .int (nI (dg_m y))])), (q0, .inl (cA, 3000, .inl T)), (q1, .inl (cB, 40, .inl G)), (q2, .inl (cC, 20, .inl E2))]) hD hS hA [0, 1, 2, 3] rfl
    refine va_calli (va_runV (As := [.int (nI n)]) (rest := []) ⟨hx, hb, hml, hown, hts⟩ (c_M_putDigits l dC dI h0 q0 q1 q2 H.size n k cA cB cC T G T0 G0 hT hG (by omega) hk E2 (dg_m y) (dg_w y) (by omega) hE2 n (by omega)) (cwV 1 hts (gV_ (fun w h => List.mem_cons_of_mem _ h) k295 k297 k13 k22 k298) rfl rfl rfl (by decide +kernel) ⟨Nat.le_of_ble_eq_true rfl, Nat.le_of_ble_eq_true rfl⟩) ⟨fun a U g mk q => by obtain ⟨q0, q1, qP, qK, qD⟩ := q; exact ⟨q0, q1, qP, va_K.moved (u := U) (U := U.calling g mk a) (Vm.Alike.refl U.vm) qK, qD⟩, va_recv hKc hPc (ci := 1) (q0 := 0) rfl rfl, fun U hU hW => ⟨rfl, by rw [hU], by rw [hU]; exact hPc, va_K.moved hW.alike hKc, hDc.weaken (fun _ _ _ _ => trivial)⟩⟩ rfl rfl hl.1 rfl (lv_room (Nat.le_of_ble_eq_true rfl)) dX1_add_42 ⟨Nat.le_of_ble_eq_true rfl, Nat.le_of_ble_eq_true rfl⟩) hS (fun q _ h => hFc q h) hFc (fun r42 u42 t H locs ht hvm w42 hB hz1 hk1 hS => ?_)
    try dsimp only at w42
    obtain ⟨⟨n2, T2, k2, G2⟩, E3, d3⟩ := u42
    obtain ⟨hP1, hK1, hD1⟩ := hB
    rw [ht] at hP1
    obtain ⟨hP, hD⟩ := va_join (wr := []) (w1 := [(h0, .inr (1, [.ref q0, .ref q1, .ref q2, .int (nI n2), .int (nI k2), .int d3])), (q0, .inl (cA, 3000, .inl T2)), (q1, .inl (cB, 40, .inl G2)), (q2, .inl (cC, 20, .inl E3))]) hP hD [0, 1, 2, 3] [] rfl rfl (by decide) (by decide) hk1 hFc hP1 hD1
    have hP : va_P (dC, dI) vwCl [(h0, .inr (1, [.ref q0, .ref q1, .ref q2, .int (nI n2), .int (nI k2), .int d3])), (q0, .inl (cA, 3000, .inl T2)), (q1, .inl (cB, 40, .inl G2)), (q2, .inl (cC, 20, .inl E3))] H := hP
    have hD : va_D A [(h0, .inr (1, [.ref q0, .ref q1, .ref q2, .int (nI n2), .int (nI k2), .int d3])), (q0, .inl (cA, 3000, .inl T2)), (q1, .inl (cB, 40, .inl G2)), (q2, .inl (cC, 20, .inl E3))] := hD
    subst hQ
    exact W.iret (v := r42) hx hb hr (fun t ht hW => ⟨⟨r42, ((n2, T2, k2, G2), E3, d3), rfl, (by rw [(show sp_add x y n T0 k G0 = sp_put n n (dg_w y) (dg_m y) n T0 k G0 from (by unfold sp_add; (repeat' split) <;> first | rfl | (exfalso; omega)))]; exact w42), by rw [ht]; exact hP, va_K.moved hW.alike hK, hD⟩, hS.F ht⟩) hS.2.2 dX1_add_45
  by_cases hs1_1 : x.toInt = 1
  · skip
    refine lv_tableIn (off := 45) (tgt := 46) hx hb dX1_add_1 (by omega) (by omega) (by rw [sw1, hs1_1]; first | done | rfl) rfl ?_
    refine lv_aload_n hx hb dX1_add_46 rfl (lv_at hl 0 rfl) ?_
    refine lv_lload_n hx hb dX1_add_47 rfl (lv_at hl 2 rfl) ?_
    refine lv_lconst (v := (0 : Int64)) hx hb dX1_add_48 (by decide) ?_
    refine W.lcmp hx hb dX1_add_49 ?_
    refine lv_if_eq (tgt := 57) hx hb dX1_add_50 rfl (fun h50 => ?_) (fun h50 => ?_)
    · skip
      have h50 := (tl_leq (show y.toInt = y.toInt from rfl) (show ((0 : Int64)).toInt = (0 : Int) from (by decide))).mp h50
      refine lv_iconst (v := nI 0) hx hb dX1_add_57 (by decide) ?_
      have hPc := hP.sub (ws' := [(h0, .inr (1, [.ref q0, .ref q1, .ref q2, .int (nI n), .int (nI k), .int d])), (q0, .inl (cA, 3000, .inl T)), (q1, .inl (cB, 40, .inl G)), (q2, .inl (cC, 20, .inl E))]) [0, 1, 2, 3] rfl
      have hDc := hD.sub (ws' := [(h0, .inr (1, [.ref q0, .ref q1, .ref q2, .int (nI n), .int (nI k), .int d])), (q0, .inl (cA, 3000, .inl T)), (q1, .inl (cB, 40, .inl G)), (q2, .inl (cC, 20, .inl E))]) [0, 1, 2, 3] (by decide) rfl
      have hKc := hK
      have hFc := va_free (wc := [(h0, .inr (1, [.ref q0, .ref q1, .ref q2, .int (nI n), .int (nI k), .int d])), (q0, .inl (cA, 3000, .inl T)), (q1, .inl (cB, 40, .inl G)), (q2, .inl (cC, 20, .inl E))]) hD hS hA [0, 1, 2, 3] rfl
      refine va_calli (va_runV (As := [.int (nI 0)]) (rest := []) ⟨hx, hb, hml, hown, hts⟩ (c_M_letters l dC dI h0 q0 q1 q2 s.heap.size n k cA cB cC T G T0 G0 hT hG (by omega) hk E d (nI 0) tY tN) (cwV 1 hts (gV_ (fun w h => List.mem_cons_of_mem _ h) k307 k309 k16 k22 k310) rfl rfl rfl (by decide +kernel) ⟨Nat.le_of_ble_eq_true rfl, Nat.le_of_ble_eq_true rfl⟩) ⟨fun a U g mk q => by obtain ⟨q0, q1, qP, qK, qD, qM⟩ := q; exact ⟨q0, q1, qP, va_K.moved (u := U) (U := U.calling g mk a) (Vm.Alike.refl U.vm) qK, qD, mK_moved (u := U) (U := U.calling g mk a) (Vm.Alike.refl U.vm) qM⟩, va_recv hKc hPc (ci := 1) (q0 := 0) rfl rfl, fun U hU hW => ⟨rfl, by rw [hU], by rw [hU]; exact hPc, va_K.moved hW.alike hKc, hDc.weaken (fun _ _ _ _ => trivial), mK_at hM hS (fun q h => hFc q h) hW.alike hU⟩⟩ rfl rfl hl.1 rfl (lv_room (Nat.le_of_ble_eq_true rfl)) dX1_add_58 ⟨Nat.le_of_ble_eq_true rfl, Nat.le_of_ble_eq_true rfl⟩) hS (fun q _ h => hFc q h) hFc (fun r58 u58 t H locs ht hvm w58 hB hz1 hk1 hS => ?_)
      try dsimp only at w58
      obtain ⟨⟨n2, T2, k2, G2⟩, E3, d3⟩ := u58
      obtain ⟨hP1, hK1, hD1⟩ := hB
      rw [ht] at hP1
      obtain ⟨hP, hD⟩ := va_join (wr := []) (w1 := [(h0, .inr (1, [.ref q0, .ref q1, .ref q2, .int (nI n2), .int (nI k2), .int d3])), (q0, .inl (cA, 3000, .inl T2)), (q1, .inl (cB, 40, .inl G2)), (q2, .inl (cC, 20, .inl E3))]) hP hD [0, 1, 2, 3] [] rfl rfl (by decide) (by decide) hk1 hFc hP1 hD1
      have hP : va_P (dC, dI) vwCl [(h0, .inr (1, [.ref q0, .ref q1, .ref q2, .int (nI n2), .int (nI k2), .int d3])), (q0, .inl (cA, 3000, .inl T2)), (q1, .inl (cB, 40, .inl G2)), (q2, .inl (cC, 20, .inl E3))] H := hP
      have hD : va_D A [(h0, .inr (1, [.ref q0, .ref q1, .ref q2, .int (nI n2), .int (nI k2), .int d3])), (q0, .inl (cA, 3000, .inl T2)), (q1, .inl (cB, 40, .inl G2)), (q2, .inl (cC, 20, .inl E3))] := hD
      subst hQ
      exact W.iret (v := r58) hx hb hr (fun t ht hW => ⟨⟨r58, ((n2, T2, k2, G2), E3, d3), rfl, (by rw [(show sp_add x y n T0 k G0 = sp_put n n tl_no 5 n T0 k G0 from (by unfold sp_add; (repeat' split) <;> first | rfl | (exfalso; omega)))]; rw [if_pos (show (nI 0).toInt = 0 by decide)] at w58; exact w58), by rw [ht]; exact hP, va_K.moved hW.alike hK, hD⟩, hS.F ht⟩) hS.2.2 dX1_add_61
    · skip
      have h50 := (not_congr (tl_leq (show y.toInt = y.toInt from rfl) (show ((0 : Int64)).toInt = (0 : Int) from (by decide)))).mp h50
      refine lv_iconst (v := nI 1) hx hb dX1_add_53 (by decide) ?_
      refine lv_goto (tgt := 58) hx hb dX1_add_54 rfl ?_
      have hPc := hP.sub (ws' := [(h0, .inr (1, [.ref q0, .ref q1, .ref q2, .int (nI n), .int (nI k), .int d])), (q0, .inl (cA, 3000, .inl T)), (q1, .inl (cB, 40, .inl G)), (q2, .inl (cC, 20, .inl E))]) [0, 1, 2, 3] rfl
      have hDc := hD.sub (ws' := [(h0, .inr (1, [.ref q0, .ref q1, .ref q2, .int (nI n), .int (nI k), .int d])), (q0, .inl (cA, 3000, .inl T)), (q1, .inl (cB, 40, .inl G)), (q2, .inl (cC, 20, .inl E))]) [0, 1, 2, 3] (by decide) rfl
      have hKc := hK
      have hFc := va_free (wc := [(h0, .inr (1, [.ref q0, .ref q1, .ref q2, .int (nI n), .int (nI k), .int d])), (q0, .inl (cA, 3000, .inl T)), (q1, .inl (cB, 40, .inl G)), (q2, .inl (cC, 20, .inl E))]) hD hS hA [0, 1, 2, 3] rfl
      refine va_calli (va_runV (As := [.int (nI 1)]) (rest := []) ⟨hx, hb, hml, hown, hts⟩ (c_M_letters l dC dI h0 q0 q1 q2 s.heap.size n k cA cB cC T G T0 G0 hT hG (by omega) hk E d (nI 1) tY tN) (cwV 1 hts (gV_ (fun w h => List.mem_cons_of_mem _ h) k307 k309 k16 k22 k310) rfl rfl rfl (by decide +kernel) ⟨Nat.le_of_ble_eq_true rfl, Nat.le_of_ble_eq_true rfl⟩) ⟨fun a U g mk q => by obtain ⟨q0, q1, qP, qK, qD, qM⟩ := q; exact ⟨q0, q1, qP, va_K.moved (u := U) (U := U.calling g mk a) (Vm.Alike.refl U.vm) qK, qD, mK_moved (u := U) (U := U.calling g mk a) (Vm.Alike.refl U.vm) qM⟩, va_recv hKc hPc (ci := 1) (q0 := 0) rfl rfl, fun U hU hW => ⟨rfl, by rw [hU], by rw [hU]; exact hPc, va_K.moved hW.alike hKc, hDc.weaken (fun _ _ _ _ => trivial), mK_at hM hS (fun q h => hFc q h) hW.alike hU⟩⟩ rfl rfl hl.1 rfl (lv_room (Nat.le_of_ble_eq_true rfl)) dX1_add_58 ⟨Nat.le_of_ble_eq_true rfl, Nat.le_of_ble_eq_true rfl⟩) hS (fun q _ h => hFc q h) hFc (fun r58 u58 t H locs ht hvm w58 hB hz1 hk1 hS => ?_)
      try dsimp only at w58
      obtain ⟨⟨n2, T2, k2, G2⟩, E3, d3⟩ := u58
      obtain ⟨hP1, hK1, hD1⟩ := hB
      rw [ht] at hP1
      obtain ⟨hP, hD⟩ := va_join (wr := []) (w1 := [(h0, .inr (1, [.ref q0, .ref q1, .ref q2, .int (nI n2), .int (nI k2), .int d3])), (q0, .inl (cA, 3000, .inl T2)), (q1, .inl (cB, 40, .inl G2)), (q2, .inl (cC, 20, .inl E3))]) hP hD [0, 1, 2, 3] [] rfl rfl (by decide) (by decide) hk1 hFc hP1 hD1
      have hP : va_P (dC, dI) vwCl [(h0, .inr (1, [.ref q0, .ref q1, .ref q2, .int (nI n2), .int (nI k2), .int d3])), (q0, .inl (cA, 3000, .inl T2)), (q1, .inl (cB, 40, .inl G2)), (q2, .inl (cC, 20, .inl E3))] H := hP
      have hD : va_D A [(h0, .inr (1, [.ref q0, .ref q1, .ref q2, .int (nI n2), .int (nI k2), .int d3])), (q0, .inl (cA, 3000, .inl T2)), (q1, .inl (cB, 40, .inl G2)), (q2, .inl (cC, 20, .inl E3))] := hD
      subst hQ
      exact W.iret (v := r58) hx hb hr (fun t ht hW => ⟨⟨r58, ((n2, T2, k2, G2), E3, d3), rfl, (by rw [(show sp_add x y n T0 k G0 = sp_put n n tl_yes 4 n T0 k G0 from (by unfold sp_add; (repeat' split) <;> first | rfl | (exfalso; omega)))]; rw [if_neg (show ¬ (nI 1).toInt = 0 by decide)] at w58; exact w58), by rw [ht]; exact hP, va_K.moved hW.alike hK, hD⟩, hS.F ht⟩) hS.2.2 dX1_add_61
  by_cases hs1_2 : x.toInt = 2
  · skip
    refine lv_tableIn (off := 61) (tgt := 62) hx hb dX1_add_1 (by omega) (by omega) (by rw [sw1, hs1_2]; first | done | rfl) rfl ?_
    refine lv_aload_n hx hb dX1_add_62 rfl (lv_at hl 0 rfl) ?_
    refine lv_aload_n hx hb dX1_add_63 rfl (lv_at hl 0 rfl) ?_
    refine va_get (D := (dC, dI)) (ci := 1) (v := .int (nI n)) (C := RX1) (T := TX1) (N := 6) hx hb hts hinX1 hown hK hP 0 rfl rfl 3 (by decide) (hts _ (List.mem_cons_of_mem _ k248)) (fun _ h9 => h9) rfl dX1_add_64 ?_
    have hPc := hP.sub (ws' := [(h0, .inr (1, [.ref q0, .ref q1, .ref q2, .int (nI n), .int (nI k), .int d])), (q0, .inl (cA, 3000, .inl T)), (q1, .inl (cB, 40, .inl G)), (q2, .inl (cC, 20, .inl E))]) [0, 1, 2, 3] rfl
    have hDc := hD.sub (ws' := [(h0, .inr (1, [.ref q0, .ref q1, .ref q2, .int (nI n), .int (nI k), .int d])), (q0, .inl (cA, 3000, .inl T)), (q1, .inl (cB, 40, .inl G)), (q2, .inl (cC, 20, .inl E))]) [0, 1, 2, 3] (by decide) rfl
    have hKc := hK
    have hFc := va_free (wc := [(h0, .inr (1, [.ref q0, .ref q1, .ref q2, .int (nI n), .int (nI k), .int d])), (q0, .inl (cA, 3000, .inl T)), (q1, .inl (cB, 40, .inl G)), (q2, .inl (cC, 20, .inl E))]) hD hS hA [0, 1, 2, 3] rfl
    refine va_calli (va_runV (As := [.int (nI n)]) (rest := []) ⟨hx, hb, hml, hown, hts⟩ (c_M_putScrap l dC dI h0 q0 q1 q2 s.heap.size n k cA cB cC T G T0 G0 hT hG (by omega) hk E d n (by omega)) (cwV 1 hts (gV_ (fun w h => List.mem_cons_of_mem _ h) k315 k317 k17 k22 k318) rfl rfl rfl (by decide +kernel) ⟨Nat.le_of_ble_eq_true rfl, Nat.le_of_ble_eq_true rfl⟩) ⟨fun a U g mk q => by obtain ⟨q0, q1, qP, qK, qD⟩ := q; exact ⟨q0, q1, qP, va_K.moved (u := U) (U := U.calling g mk a) (Vm.Alike.refl U.vm) qK, qD⟩, va_recv hKc hPc (ci := 1) (q0 := 0) rfl rfl, fun U hU hW => ⟨rfl, by rw [hU], by rw [hU]; exact hPc, va_K.moved hW.alike hKc, hDc.weaken (fun _ _ _ _ => trivial)⟩⟩ rfl rfl hl.1 rfl (lv_room (Nat.le_of_ble_eq_true rfl)) dX1_add_67 ⟨Nat.le_of_ble_eq_true rfl, Nat.le_of_ble_eq_true rfl⟩) hS (fun q _ h => hFc q h) hFc (fun r67 u67 t H locs ht hvm w67 hB hz1 hk1 hS => ?_)
    try dsimp only at w67
    obtain ⟨⟨n2, T2, k2, G2⟩, E3, d3⟩ := u67
    obtain ⟨hP1, hK1, hD1⟩ := hB
    rw [ht] at hP1
    obtain ⟨hP, hD⟩ := va_join (wr := []) (w1 := [(h0, .inr (1, [.ref q0, .ref q1, .ref q2, .int (nI n2), .int (nI k2), .int d3])), (q0, .inl (cA, 3000, .inl T2)), (q1, .inl (cB, 40, .inl G2)), (q2, .inl (cC, 20, .inl E3))]) hP hD [0, 1, 2, 3] [] rfl rfl (by decide) (by decide) hk1 hFc hP1 hD1
    have hP : va_P (dC, dI) vwCl [(h0, .inr (1, [.ref q0, .ref q1, .ref q2, .int (nI n2), .int (nI k2), .int d3])), (q0, .inl (cA, 3000, .inl T2)), (q1, .inl (cB, 40, .inl G2)), (q2, .inl (cC, 20, .inl E3))] H := hP
    have hD : va_D A [(h0, .inr (1, [.ref q0, .ref q1, .ref q2, .int (nI n2), .int (nI k2), .int d3])), (q0, .inl (cA, 3000, .inl T2)), (q1, .inl (cB, 40, .inl G2)), (q2, .inl (cC, 20, .inl E3))] := hD
    subst hQ
    exact W.iret (v := r67) hx hb hr (fun t ht hW => ⟨⟨r67, ((n2, T2, k2, G2), E3, d3), rfl, (by rw [(show sp_add x y n T0 k G0 = sp_put n n G0 k n T0 k G0 from (by unfold sp_add; (repeat' split) <;> first | rfl | (exfalso; omega)))]; exact w67), by rw [ht]; exact hP, va_K.moved hW.alike hK, hD⟩, hS.F ht⟩) hS.2.2 dX1_add_70
  by_cases hs1_3 : x.toInt = 3
  · skip
    refine lv_tableIn (off := 70) (tgt := 71) hx hb dX1_add_1 (by omega) (by omega) (by rw [sw1, hs1_3]; first | done | rfl) rfl ?_
    refine lv_lload_n hx hb dX1_add_71 rfl (lv_at hl 2 rfl) ?_
    refine vp_callSi ((va_runS (As := [.long y]) (rest := []) ⟨hx, hb, hml, hown, hts⟩ (c_M_isSign l y) (va_cwS 1 hts (gS_ (fun w h => List.mem_cons_of_mem _ h) k268 k269 k22 k270) rfl rfl rfl (by decide +kernel) ⟨Nat.le_of_ble_eq_true rfl, Nat.le_of_ble_eq_true rfl⟩) ⟨fun a U g mk q => q, fun U hU hW => ⟨rfl, trivial⟩⟩ rfl rfl hl.1 rfl (lv_room (Nat.le_of_ble_eq_true rfl)) dX1_add_72 ⟨Nat.le_of_ble_eq_true rfl, Nat.le_of_ble_eq_true rfl⟩).run) (fun r72 w72 => ?_)
    try dsimp only at w72
    refine lv_if_ne (tgt := 80) hx hb dX1_add_75 rfl (fun h75 => ?_) (fun h75 => ?_)
    · skip
      have h75 := (tl_b1 w72).mp h75
      refine lv_aload_n hx hb dX1_add_80 rfl (lv_at hl 0 rfl) ?_
      refine lv_iconst (v := nI 1) hx hb dX1_add_81 (by decide) ?_
      have ea82_0 : (nI 1).toInt = (1 : Int) := (by decide)
      refine vp_callSi ((va_runV (As := [.int (nI 1)]) (rest := []) ⟨hx, hb, hml, hown, hts⟩ (c_M_full l dC dI h0 q0 q1 q2 n k cA cB cC T G T0 G0 hT hG (by omega) hk E d (nI 1) (by omega) (by omega)) (cwV 1 hts (gV_ (fun w h => List.mem_cons_of_mem _ h) k299 k301 k14 k22 k302) rfl rfl rfl (by decide +kernel) ⟨Nat.le_of_ble_eq_true rfl, Nat.le_of_ble_eq_true rfl⟩) ⟨fun a U g mk q => by obtain ⟨q0, qP, qK⟩ := q; exact ⟨q0, qP, va_K.moved (u := U) (U := U.calling g mk a) (Vm.Alike.refl U.vm) qK⟩, va_recv hK hP (ci := 1) (q0 := 0) rfl rfl, fun U hU hW => ⟨rfl, by rw [hU]; exact hP, va_K.moved hW.alike hK⟩⟩ rfl rfl hl.1 rfl (lv_room (Nat.le_of_ble_eq_true rfl)) dX1_add_82 ⟨Nat.le_of_ble_eq_true rfl, Nat.le_of_ble_eq_true rfl⟩).run) (fun r82 w82 => ?_)
      try dsimp only at w82
      refine lv_if_eq (tgt := 91) hx hb dX1_add_85 rfl (fun h85 => ?_) (fun h85 => ?_)
      · skip
        have h85 := (tl_b0 w82).mp h85
        refine lv_aload_n hx hb dX1_add_91 rfl (lv_at hl 0 rfl) ?_
        refine va_get (D := (dC, dI)) (ci := 1) (v := .ref q0) (C := RX1) (T := TX1) (N := 6) hx hb hts hinX1 hown hK hP 0 rfl rfl 0 (by decide) (hts _ (List.mem_cons_of_mem _ k245)) (fun _ h9 => h9) rfl dX1_add_92 ?_
        refine lv_aload_n hx hb dX1_add_95 rfl (lv_at hl 0 rfl) ?_
        refine va_get (D := (dC, dI)) (ci := 1) (v := .int (nI n)) (C := RX1) (T := TX1) (N := 6) hx hb hts hinX1 hown hK hP 0 rfl rfl 3 (by decide) (hts _ (List.mem_cons_of_mem _ k248)) (fun _ h9 => h9) rfl dX1_add_96 ?_
        refine lv_lload_n hx hb dX1_add_99 rfl (lv_at hl 2 rfl) ?_
        refine lv_l2i hx hb dX1_add_100 rfl ?_
        refine tl_iast hx hb hK hP hD hS 1 0 rfl rfl (by omega) (by decide) dX1_add_101 (fun H locs hP hD hS => ?_)
        have hP : va_P (dC, dI) vwCl [(h0, .inr (1, [.ref q0, .ref q1, .ref q2, .int (nI n), .int (nI k), .int d])), (q0, .inl (cA, 3000, .inl (upd T n y.toInt32))), (q1, .inl (cB, 40, .inl G)), (q2, .inl (cC, 20, .inl E))] H := hP
        have hD : va_D A [(h0, .inr (1, [.ref q0, .ref q1, .ref q2, .int (nI n), .int (nI k), .int d])), (q0, .inl (cA, 3000, .inl (upd T n y.toInt32))), (q1, .inl (cB, 40, .inl G)), (q2, .inl (cC, 20, .inl E))] := hD
        refine lv_aload_n hx hb dX1_add_102 rfl (lv_at hl 0 rfl) ?_
        refine lv_dup hx hb dX1_add_103 rfl ?_
        refine va_get (D := (dC, dI)) (ci := 1) (v := .int (nI n)) (C := RX1) (T := TX1) (N := 6) hx hb hts hinX1 hown hK hP 0 rfl rfl 3 (by decide) (hts _ (List.mem_cons_of_mem _ k248)) (fun _ h9 => h9) rfl dX1_add_104 ?_
        refine lv_iconst (v := nI 1) hx hb dX1_add_107 (by decide) ?_
        refine lv_iadd hx hb dX1_add_108 ?_
        refine tl_top (nI_add _ _) ?_
        refine lv_dup_x1 hx hb dX1_add_109 rfl rfl ?_
        refine va_put (D := (dC, dI)) (ci := 1) (v := .int (nI (n + 1))) (ty := .int) (C := RX1) (T := TX1) (N := 6) hx hb hts hinX1 tyX1 tyX1_ok nmX1 hown hK hP hD hS 0 rfl rfl 3 (by decide) (hts _ (List.mem_cons_of_mem _ k248)) (fun _ h9 => h9) rfl (by decide +kernel) rfl rfl (Nat.le_of_ble_eq_true rfl) dX1_add_110 (fun H locs hP hD hS => ?_)
        have hP : va_P (dC, dI) vwCl [(h0, .inr (1, [.ref q0, .ref q1, .ref q2, .int (nI (n + 1)), .int (nI k), .int d])), (q0, .inl (cA, 3000, .inl (upd T n y.toInt32))), (q1, .inl (cB, 40, .inl G)), (q2, .inl (cC, 20, .inl E))] H := hP
        have hD : va_D A [(h0, .inr (1, [.ref q0, .ref q1, .ref q2, .int (nI (n + 1)), .int (nI k), .int d])), (q0, .inl (cA, 3000, .inl (upd T n y.toInt32))), (q1, .inl (cB, 40, .inl G)), (q2, .inl (cC, 20, .inl E))] := hD
        subst hQ
        exact W.iret (v := nI (n + 1)) hx hb hr (fun t ht hW => ⟨⟨nI (n + 1), ((n + 1, upd T n y.toInt32, k, G), E, d), rfl, (by rw [(show sp_add x y n T0 k G0 = sp_put n n (fun _ => y.toInt32) 1 n T0 k G0 from (by unfold sp_add; (repeat' split) <;> first | rfl | (exfalso; omega)))]; unfold sp_put; rw [if_pos (by omega), Nat.sub_self, Nat.sub_zero]; exact ⟨rfl, tE_mk (pm_sign hT) hG (by omega) hk⟩), by rw [ht]; exact hP, va_K.moved hW.alike hK, hD⟩, hS.F ht⟩) hS.2.2 dX1_add_113
      · skip
        have h85 := (tl_b1 w82).mp h85
        refine lv_bipush (v := (-3 : Int32)) hx hb dX1_add_88 (by decide) ?_
        subst hQ
        exact W.iret (v := (-3 : Int32)) hx hb hr (fun t ht hW => ⟨⟨(-3 : Int32), ((n, T, k, G), E, d), rfl, (by rw [(show sp_add x y n T0 k G0 = sp_put n n (fun _ => y.toInt32) 1 n T0 k G0 from (by unfold sp_add; (repeat' split) <;> first | rfl | (exfalso; omega)))]; unfold sp_put; rw [if_neg (by omega)]; exact ⟨rfl, tE_mk hT hG hn hk⟩), by rw [ht]; exact hP, va_K.moved hW.alike hK, hD⟩, hS.F ht⟩) hS.2.2 dX1_add_90
    · skip
      have h75 := (tl_b0 w72).mp h75
      refine lv_iconst (v := (-1 : Int32)) hx hb dX1_add_78 (by decide) ?_
      subst hQ
      exact W.iret (v := (-1 : Int32)) hx hb hr (fun t ht hW => ⟨⟨(-1 : Int32), ((n, T, k, G), E, d), rfl, (by rw [(show sp_add x y n T0 k G0 = ((-1 : Int32), (n, T0, k, G0)) from (by unfold sp_add; (repeat' split) <;> first | rfl | (exfalso; omega)))]; exact ⟨rfl, tE_mk hT hG hn hk⟩), by rw [ht]; exact hP, va_K.moved hW.alike hK, hD⟩, hS.F ht⟩) hS.2.2 dX1_add_79
  refine lv_tableOut (tgt := 114) hx hb dX1_add_1 (by omega) rfl ?_
  refine lv_iconst (v := (-1 : Int32)) hx hb dX1_add_114 (by decide) ?_
  subst hQ
  exact W.iret (v := (-1 : Int32)) hx hb hr (fun t ht hW => ⟨⟨(-1 : Int32), ((n, T, k, G), E, d), rfl, (by rw [(show sp_add x y n T0 k G0 = ((-1 : Int32), (n, T0, k, G0)) from (by unfold sp_add; (repeat' split) <;> first | rfl | (exfalso; omega)))]; exact ⟨rfl, tE_mk hT hG hn hk⟩), by rw [ht]; exact hP, va_K.moved hW.alike hK, hD⟩, hS.F ht⟩) hS.2.2 dX1_add_115
set_option maxHeartbeats 4000000 in
set_option maxRecDepth 100000 in
theorem c_M_init (l : Launch) (dC : Nat → ClassId) (dI : Nat → Nat → Nat) (h0 sz : Nat) : Met l yX1_init wsX1_init ({ frames := 1, cells := 3, slots := 3060, locals := 12 } : Room) (va_Pc [.ref h0] (fun U => U.heap.size = sz ∧ va_P (dC, dI) vwCl [(h0, .inr (1, [.null, .null, .null, .int 0, .int 0, .int 0]))] U.heap ∧ va_K (dC, dI) vwCl [] U ∧ va_D (fun _ => True) [(h0, .inr (1, [.null, .null, .null, .int 0, .int 0, .int 0]))])) (va_Qv (fun (u : tM) => u = ((0, (fun _ => 0), 0, (fun _ => 0)), (fun _ => 0), 0)) (fun u t => ∃ (q0 q1 q2 : Nat) (cA cB cC : ClassId), at_M dC dI (va_A [(h0, .inr (1, [.null, .null, .null, .int 0, .int 0, .int 0]))] sz) h0 q0 q1 q2 cA cB cC u t) (va_A [(h0, .inr (1, [.null, .null, .null, .int 0, .int 0, .int 0]))] sz)) 3 3060 (va_A [(h0, .inr (1, [.null, .null, .null, .int 0, .int 0, .int 0]))] sz) := by
  refine Met.ofW (cc := cX1_init) (maxL := 1) (ret := none) (by decide) rfl ?_
  intro p e s m args below meth c s₁ B hml hv
  obtain ⟨rfl, hsz, hP, hK, hD0⟩ := hv
  have hx := B.exec
  have hb := B.bytes
  have hr := B.returns
  have hts := atoms_spec (ws := wsX1_init) B.pre
  have hown : s.vm.findClass RX1 = some m.cls := findClass_of_methodNamed B.named
  have hlocks := B.notSynchronized
  have hin : meth.name = "<init>" := (name_of_methodNamed B.named B.method).1
  subst hsz
  have hD := hD0.self (sz := s.heap.size)
  generalize hAe : va_A [(h0, .inr (1, [.null, .null, .null, .int 0, .int 0, .int 0]))] s.heap.size = A at hD ⊢
  have hA : ∀ q : Nat, s.heap.size ≤ q → A q := fun q h => by rw [← hAe]; exact Or.inr h
  have hS : va_S A s.heap s.heap [] := va_S.rf
  have hP : va_P (dC, dI) vwCl [(h0, .inr (1, [.null, .null, .null, .int 0, .int 0, .int 0]))] s.heap := hP
  have hinX1 : ∀ w ∈ u_ws RX1 TX1 6, w ∈ wsX1_init := fun w h => List.mem_cons_of_mem _ (inX1 w h)
  have hl := lv_entry ([.ref h0]) (n := 1) (Nat.le_of_ble_eq_true rfl)
  rw [lg_entry_eq]
  generalize (lg_sl ([.ref h0]) ++ List.replicate (1 - (lg_sl ([.ref h0])).length) Slot.unset).toArray = ls at hl ⊢
  have hl : lv_has ls 1 [(0, .ref h0)] := hl
  refine tl_q (fun Q hQ => ?_)
  refine lv_aload_n hx hb dX1_init_0 rfl (lv_at hl 0 rfl) ?_
  refine W.objInit hx hb hown (hts _ (List.mem_cons_of_mem _ k244)) (hts _ (List.mem_cons_of_mem _ k35)) (hts _ (List.mem_cons_of_mem _ k36)) rfl (by rw [hml]; exact hl.1) rfl dX1_init_1 (Nat.le_of_ble_eq_true rfl) (Nat.le_of_ble_eq_true rfl) ?_
  refine W.eq (g2 := F0 m 4 ls []) rfl ?_
  refine lv_aload_n hx hb dX1_init_4 rfl (lv_at hl 0 rfl) ?_
  refine lv_sipush (v := nI 3000) hx hb dX1_init_5 (by decide) ?_
  refine va_newa (atype := .int) (N' := 3000) (a0 := (3000, .inl (fun _ => 0))) (ty := .int) (n := nI 3000) hx hb (hts _ (List.mem_cons_of_mem _ k50)) rfl hK hP hD hS hA (fun _ => rfl) (by decide) (by decide) (by decide) (Nat.le_of_ble_eq_true rfl) (Nat.le_of_ble_eq_true rfl) dX1_init_8 (fun q0 cA H hK hP hD hS => ?_)
  have hP : va_P (dC, dI) vwCl [(h0, .inr (1, [.null, .null, .null, .int 0, .int 0, .int 0])), (q0, .inl (cA, 3000, .inl ((fun _ => 0))))] H := hP
  have hD : va_D A [(h0, .inr (1, [.null, .null, .null, .int 0, .int 0, .int 0])), (q0, .inl (cA, 3000, .inl ((fun _ => 0))))] := hD
  have hK : va_K (dC, dI) vwCl [(cA, .int)] s := hK
  refine W.widen (k := 1) (n := 3000) (by omega) (by omega) ?_
  refine va_putF (D := (dC, dI)) (ci := 1) (v := .ref q0) (ty := (.array .int)) (C := RX1) (T := TX1) (N := 6) hx hb hts hinX1 tyX1 tyX1_ok nmX1 hown hK hP hD hS 0 rfl rfl 0 (by decide) (hts _ (List.mem_cons_of_mem _ k245)) (fun _ h9 => h9) rfl hin rfl (by decide +kernel) rfl rfl (Nat.le_of_ble_eq_true rfl) dX1_init_10 (fun H locs hP hD hS => ?_)
  have hP : va_P (dC, dI) vwCl [(h0, .inr (1, [.ref q0, .null, .null, .int 0, .int 0, .int 0])), (q0, .inl (cA, 3000, .inl ((fun _ => 0))))] H := hP
  have hD : va_D A [(h0, .inr (1, [.ref q0, .null, .null, .int 0, .int 0, .int 0])), (q0, .inl (cA, 3000, .inl ((fun _ => 0))))] := hD
  refine lv_aload_n hx hb dX1_init_13 rfl (lv_at hl 0 rfl) ?_
  refine lv_bipush (v := nI 40) hx hb dX1_init_14 (by decide) ?_
  refine va_newa (atype := .int) (N' := 40) (a0 := (40, .inl (fun _ => 0))) (ty := .int) (n := nI 40) hx hb (hts _ (List.mem_cons_of_mem _ k50)) rfl hK hP hD hS hA (fun _ => rfl) (by decide) (by decide) (by decide) (Nat.le_of_ble_eq_true rfl) (Nat.le_of_ble_eq_true rfl) dX1_init_16 (fun q1 cB H hK hP hD hS => ?_)
  have hP : va_P (dC, dI) vwCl [(h0, .inr (1, [.ref q0, .null, .null, .int 0, .int 0, .int 0])), (q0, .inl (cA, 3000, .inl ((fun _ => 0)))), (q1, .inl (cB, 40, .inl ((fun _ => 0))))] H := hP
  have hD : va_D A [(h0, .inr (1, [.ref q0, .null, .null, .int 0, .int 0, .int 0])), (q0, .inl (cA, 3000, .inl ((fun _ => 0)))), (q1, .inl (cB, 40, .inl ((fun _ => 0))))] := hD
  have hK : va_K (dC, dI) vwCl [(cA, .int), (cB, .int)] s := hK
  refine W.widen (k := 2) (n := 3040) (by omega) (by omega) ?_
  refine va_putF (D := (dC, dI)) (ci := 1) (v := .ref q1) (ty := (.array .int)) (C := RX1) (T := TX1) (N := 6) hx hb hts hinX1 tyX1 tyX1_ok nmX1 hown hK hP hD hS 0 rfl rfl 1 (by decide) (hts _ (List.mem_cons_of_mem _ k246)) (fun _ h9 => h9) rfl hin rfl (by decide +kernel) rfl rfl (Nat.le_of_ble_eq_true rfl) dX1_init_18 (fun H locs hP hD hS => ?_)
  have hP : va_P (dC, dI) vwCl [(h0, .inr (1, [.ref q0, .ref q1, .null, .int 0, .int 0, .int 0])), (q0, .inl (cA, 3000, .inl ((fun _ => 0)))), (q1, .inl (cB, 40, .inl ((fun _ => 0))))] H := hP
  have hD : va_D A [(h0, .inr (1, [.ref q0, .ref q1, .null, .int 0, .int 0, .int 0])), (q0, .inl (cA, 3000, .inl ((fun _ => 0)))), (q1, .inl (cB, 40, .inl ((fun _ => 0))))] := hD
  refine lv_aload_n hx hb dX1_init_21 rfl (lv_at hl 0 rfl) ?_
  refine lv_bipush (v := nI 20) hx hb dX1_init_22 (by decide) ?_
  refine va_newa (atype := .int) (N' := 20) (a0 := (20, .inl (fun _ => 0))) (ty := .int) (n := nI 20) hx hb (hts _ (List.mem_cons_of_mem _ k50)) rfl hK hP hD hS hA (fun _ => rfl) (by decide) (by decide) (by decide) (Nat.le_of_ble_eq_true rfl) (Nat.le_of_ble_eq_true rfl) dX1_init_24 (fun q2 cC H hK hP hD hS => ?_)
  have hP : va_P (dC, dI) vwCl [(h0, .inr (1, [.ref q0, .ref q1, .null, .int 0, .int 0, .int 0])), (q0, .inl (cA, 3000, .inl ((fun _ => 0)))), (q1, .inl (cB, 40, .inl ((fun _ => 0)))), (q2, .inl (cC, 20, .inl ((fun _ => 0))))] H := hP
  have hD : va_D A [(h0, .inr (1, [.ref q0, .ref q1, .null, .int 0, .int 0, .int 0])), (q0, .inl (cA, 3000, .inl ((fun _ => 0)))), (q1, .inl (cB, 40, .inl ((fun _ => 0)))), (q2, .inl (cC, 20, .inl ((fun _ => 0))))] := hD
  have hK : va_K (dC, dI) vwCl [(cA, .int), (cB, .int), (cC, .int)] s := hK
  refine W.widen (k := 3) (n := 3060) (by omega) (by omega) ?_
  refine va_putF (D := (dC, dI)) (ci := 1) (v := .ref q2) (ty := (.array .int)) (C := RX1) (T := TX1) (N := 6) hx hb hts hinX1 tyX1 tyX1_ok nmX1 hown hK hP hD hS 0 rfl rfl 2 (by decide) (hts _ (List.mem_cons_of_mem _ k247)) (fun _ h9 => h9) rfl hin rfl (by decide +kernel) rfl rfl (Nat.le_of_ble_eq_true rfl) dX1_init_26 (fun H locs hP hD hS => ?_)
  have hP : va_P (dC, dI) vwCl [(h0, .inr (1, [.ref q0, .ref q1, .ref q2, .int 0, .int 0, .int 0])), (q0, .inl (cA, 3000, .inl ((fun _ => 0)))), (q1, .inl (cB, 40, .inl ((fun _ => 0)))), (q2, .inl (cC, 20, .inl ((fun _ => 0))))] H := hP
  have hD : va_D A [(h0, .inr (1, [.ref q0, .ref q1, .ref q2, .int 0, .int 0, .int 0])), (q0, .inl (cA, 3000, .inl ((fun _ => 0)))), (q1, .inl (cB, 40, .inl ((fun _ => 0)))), (q2, .inl (cC, 20, .inl ((fun _ => 0))))] := hD
  subst hQ
  exact W.vret hx hb hr (fun t ht hW => ⟨⟨((0, (fun _ => 0), 0, (fun _ => 0)), (fun _ => 0), 0), rfl, rfl, q0, q1, q2, cA, cB, cC, by rw [ht]; exact hP, va_K.moved hW.alike hK, hD⟩, hS.F ht⟩) hS.2.2 dX1_init_29
