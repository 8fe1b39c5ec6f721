set_option maxHeartbeats 4000000 in
set_option maxRecDepth 100000 in
theorem c_X_findForward (l : Launch) (dC : Nat → ClassId) (dI : Nat → Nat → Nat) (h0 q0 q1 n k : Nat) (cA cB : ClassId) (T G T0 G0 : Nat → Int32) (hT : ∀ j, j < n → T j = T0 j) (hG : ∀ j, j < k → G j = G0 j) (hn : n ≤ 3000) (hk : k ≤ 40) (x : Int32) : Met l yX0_findForward wsX0_findForward ({ frames := 1, cells := 0, slots := 0, locals := 22 } : Room) (va_Pc [.ref h0, .int x] (fun U => va_P (dC, dI) vwCl [(h0, .inr (0, [.ref q0, .ref q1, .int (nI n), .int (nI k)])), (q0, .inl (cA, 3000, .inl T)), (q1, .inl (cB, 40, .inl G))] U.heap ∧ va_K (dC, dI) vwCl [(cA, .int), (cB, .int)] U)) (vp_Si (fun r : Int32 => r = tl_fw n T0 k G0 (n + 1 - min x.toNatClampNeg n) (min x.toNatClampNeg n))) 0 0 (fun _ => False) := by
  refine Met.ofW (cc := cX0_findForward) (maxL := 5) (ret := (some .int)) (by decide) rfl ?_
  intro p e s m args below meth c s₁ B hml hv
  obtain ⟨rfl, hP, hK⟩ := hv
  have hx := B.exec
  have hb := B.bytes
  have hr := B.returns
  have hts := atoms_spec (ws := wsX0_findForward) B.pre
  have hown : s.vm.findClass RX0 = some m.cls := findClass_of_methodNamed B.named
  have hlocks := B.notSynchronized
  have hP : va_P (dC, dI) vwCl [(h0, .inr (0, [.ref q0, .ref q1, .int (nI n), .int (nI k)])), (q0, .inl (cA, 3000, .inl T)), (q1, .inl (cB, 40, .inl G))] s.heap := hP
  have hinX0 : ∀ w ∈ u_ws RX0 TX0 4, w ∈ wsX0_findForward := fun w h => List.mem_cons_of_mem _ (inX0 w h)
  have hl := lv_entry ([.ref h0, .int x]) (n := 5) (Nat.le_of_ble_eq_true rfl)
  rw [lg_entry_eq]
  generalize (lg_sl ([.ref h0, .int x]) ++ List.replicate (5 - (lg_sl ([.ref h0, .int x])).length) Slot.unset).toArray = ls at hl ⊢
  have hl : lv_has ls 5 [(0, .ref h0), (1, .int x)] := hl
  refine tl_q (fun Q hQ => ?_)
  refine lv_aload_n hx hb dX0_findForward_0 rfl (lv_at hl 0 rfl) ?_
  refine va_get (D := (dC, dI)) (ci := 0) (v := .int (nI n)) (C := RX0) (T := TX0) (N := 4) hx hb hts hinX0 hown hK hP 0 rfl rfl 2 (by decide) (hts _ (List.mem_cons_of_mem _ k39)) (fun _ h9 => h9) rfl dX0_findForward_1 ?_
  refine lv_aload_n hx hb dX0_findForward_4 rfl (lv_at hl 0 rfl) ?_
  refine va_get (D := (dC, dI)) (ci := 0) (v := .int (nI k)) (C := RX0) (T := TX0) (N := 4) hx hb hts hinX0 hown hK hP 0 rfl rfl 3 (by decide) (hts _ (List.mem_cons_of_mem _ k40)) (fun _ h9 => h9) rfl dX0_findForward_5 ?_
  refine lv_isub hx hb dX0_findForward_8 ?_
  have e8 : ((nI n) - (nI k)).toInt = ((n : Nat) : Int) - (((k : Nat) : Int)) := tl_subv (nI_toInt (by omega)) (nI_toInt (by omega)) (by omega) (by omega)
  refine lv_istore_n (lv' := [(2, .int ((nI n) - (nI k))), (0, .ref h0), (1, .int x)]) hx hb dX0_findForward_9 rfl hl (by decide) rfl (fun ls hl => ?_)
  refine lv_iload_n hx hb dX0_findForward_10 rfl (lv_at hl 2 rfl) ?_
  refine lv_iconst (v := nI 0) hx hb dX0_findForward_11 (by decide) ?_
  refine va_mmax hx hb (hml.trans hl.1.symm) hown (hts _ (List.mem_cons_of_mem _ k209)) (hts _ (List.mem_cons_of_mem _ k210)) (hts _ (List.mem_cons_of_mem _ k24)) (hts _ (List.mem_cons_of_mem _ k211)) (Nat.le_of_ble_eq_true rfl) (Nat.le_of_ble_eq_true rfl) (Nat.zero_le _) (Nat.zero_le _) dX0_findForward_12 ?_
  refine lv_aload_n hx hb dX0_findForward_15 rfl (lv_at hl 1 rfl) ?_
  refine va_get (D := (dC, dI)) (ci := 0) (v := .int (nI n)) (C := RX0) (T := TX0) (N := 4) hx hb hts hinX0 hown hK hP 0 rfl rfl 2 (by decide) (hts _ (List.mem_cons_of_mem _ k39)) (fun _ h9 => h9) rfl dX0_findForward_16 ?_
  refine va_mmin hx hb (hml.trans hl.1.symm) hown (hts _ (List.mem_cons_of_mem _ k166)) (hts _ (List.mem_cons_of_mem _ k167)) (hts _ (List.mem_cons_of_mem _ k24)) (hts _ (List.mem_cons_of_mem _ k168)) (Nat.le_of_ble_eq_true rfl) (Nat.le_of_ble_eq_true rfl) (Nat.zero_le _) (Nat.zero_le _) dX0_findForward_19 ?_
  refine tl_top (y := nI (min x.toNatClampNeg n)) (tl_clampv (by omega)) ?_
  refine lv_istore_n (lv' := [(3, .int (nI (min x.toNatClampNeg n))), (2, .int ((nI n) - (nI k))), (0, .ref h0), (1, .int x)]) hx hb dX0_findForward_22 rfl hl (by decide) rfl (fun ls hl => ?_)
  refine lv_iload_n hx hb dX0_findForward_23 rfl (lv_at hl 0 rfl) ?_
  refine lv_istore (lv' := [(4, .int (nI (min x.toNatClampNeg n))), (3, .int (nI (min x.toNatClampNeg n))), (2, .int ((nI n) - (nI k))), (0, .ref h0), (1, .int x)]) hx hb dX0_findForward_24 hl (by decide) rfl (fun ls hl => ?_)
  have LP26 : ∀ (fu : Nat) (a : Nat) (ls : Array Slot), n + 1 - a < fu → a ≤ n + 1 → tl_fw n T0 k G0 (n + 1 - min x.toNatClampNeg n) (min x.toNatClampNeg n) = tl_fw n T0 k G0 (n + 1 - a) a → lv_has ls 5 [(0, .ref h0), (2, .int (nI n - nI k)), (4, .int (nI a))] → W p l e (headSpec wsX0_findForward ({ frames := 1, cells := 0, slots := 0, locals := 22 } : Room)).room s m ([.ref h0, .int x] : List Value).toArray below meth c s.heap [] 0 0 Q (F0 m 26 ls []) := by
    intro fu
    induction fu with
    | zero => intro a ls hfu; exact absurd hfu (Nat.not_lt_zero _)
    | succ fu ih =>
      intro a ls hfu lta hf hl
      refine lv_iload hx hb dX0_findForward_26 (lv_at hl 2 rfl) ?_
      refine lv_iload_n hx hb dX0_findForward_28 rfl (lv_at hl 1 rfl) ?_
      refine lv_icmp_gt (tgt := 50) hx hb dX0_findForward_29 rfl (fun h29 => ?_) (fun h29 => ?_)
      · skip
        have h29 := (tl_lt (show (nI n - nI k).toInt = ((n : Int) - (k : Int)) from e8) (show (nI a).toInt = ((a : Nat) : Int) from (nI_toInt (by omega)))).mp h29
        refine lv_iconst (v := (-1 : Int32)) hx hb dX0_findForward_50 (by decide) ?_
        subst hQ
        exact W.iret (v := (-1 : Int32)) hx hb hr (fun t ht hW => ⟨(-1 : Int32), rfl, (by rw [hf, tl_fw_none _ _ (by omega)]), ht⟩) (fun q h => absurd h List.not_mem_nil) dX0_findForward_51
      · skip
        have h29 := (not_congr (tl_lt (show (nI n - nI k).toInt = ((n : Int) - (k : Int)) from e8) (show (nI a).toInt = ((a : Nat) : Int) from (nI_toInt (by omega))))).mp h29
        refine lv_aload_n hx hb dX0_findForward_32 rfl (lv_at hl 0 rfl) ?_
        refine lv_iload hx hb dX0_findForward_33 (lv_at hl 2 rfl) ?_
        have ea35_0 : (nI a).toInt = ((a : Nat) : Int) := (nI_toInt (by omega))
        refine vp_callSi ((va_runV (As := [.int (nI a)]) (rest := []) ⟨hx, hb, hml, hown, hts⟩ (c_X_scrapStandsAt l dC dI h0 q0 q1 n k cA cB T G T0 G0 hT hG hn hk a (by omega)) (cwV 1 hts (gV_ (fun w h => List.mem_cons_of_mem _ h) k201 k203 k9 k21 k204) rfl rfl rfl (by decide +kernel) ⟨Nat.le_of_ble_eq_true rfl, Nat.le_of_ble_eq_true rfl⟩) ⟨fun a U g mk q => by obtain ⟨q0, qP, qK⟩ := q; exact ⟨q0, qP, va_K.moved (u := U) (U := U.calling g mk a) (Vm.Alike.refl U.vm) qK⟩, va_recv hK hP (ci := 0) (q0 := 0) rfl rfl, fun U hU hW => ⟨rfl, by rw [hU]; exact hP, va_K.moved hW.alike hK⟩⟩ rfl rfl hl.1 rfl (lv_room (Nat.le_of_ble_eq_true rfl)) dX0_findForward_35 ⟨Nat.le_of_ble_eq_true rfl, Nat.le_of_ble_eq_true rfl⟩).run) (fun r35 w35 => ?_)
        try dsimp only at w35
        refine lv_if_eq (tgt := 44) hx hb dX0_findForward_38 rfl (fun h38 => ?_) (fun h38 => ?_)
        · skip
          have h38 := (tl_b0 w35).mp h38
          refine lv_iinc (lv' := [(4, .int (nI (a + 1))), (0, .ref h0), (2, .int (nI n - nI k))]) (k := 2) (v := nI (a + 1)) hx hb dX0_findForward_44 hl rfl (tl_inc1 _) (by decide) rfl (fun ls hl => ?_)
          refine lv_goto (tgt := 26) hx hb dX0_findForward_47 rfl ?_
          exact ih (a + 1) ls (by omega) (by omega) (by rw [hf, tl_fw_step (by omega), if_neg (fun q => h38 q.2)]) (lv_sub hl [1, 2, 0] rfl)
        · skip
          have h38 := (tl_b1 w35).mp h38
          refine lv_iload hx hb dX0_findForward_41 (lv_at hl 2 rfl) ?_
          subst hQ
          exact W.iret (v := nI a) hx hb hr (fun t ht hW => ⟨nI a, rfl, (by rw [hf, tl_fw_step (by omega), if_pos ⟨by omega, h38⟩]), ht⟩) (fun q h => absurd h List.not_mem_nil) dX0_findForward_43
  exact LP26 _ (min x.toNatClampNeg n) ls (Nat.lt_succ_self _) (by omega) (by rfl) (lv_sub hl [3, 2, 0] rfl)
set_option maxHeartbeats 4000000 in
set_option maxRecDepth 100000 in
theorem c_X_findBackward (l : Launch) (dC : Nat → ClassId) (dI : Nat → Nat → Nat) (h0 q0 q1 n k : Nat) (cA cB : ClassId) (T G T0 G0 : Nat → Int32) (hT : ∀ j, j < n → T j = T0 j) (hG : ∀ j, j < k → G j = G0 j) (hn : n ≤ 3000) (hk : k ≤ 40) (x : Int32) : Met l yX0_findBackward wsX0_findBackward ({ frames := 1, cells := 0, slots := 0, locals := 22 } : Room) (va_Pc [.ref h0, .int x] (fun U => va_P (dC, dI) vwCl [(h0, .inr (0, [.ref q0, .ref q1, .int (nI n), .int (nI k)])), (q0, .inl (cA, 3000, .inl T)), (q1, .inl (cB, 40, .inl G))] U.heap ∧ va_K (dC, dI) vwCl [(cA, .int), (cB, .int)] U)) (vp_Si (fun r : Int32 => r = if x.toInt < 0 then (-1 : Int32) else tl_bw n T0 k G0 (min x.toNatClampNeg n + 1))) 0 0 (fun _ => False) := by
  refine Met.ofW (cc := cX0_findBackward) (maxL := 4) (ret := (some .int)) (by decide) rfl ?_
  intro p e s m args below meth c s₁ B hml hv
  obtain ⟨rfl, hP, hK⟩ := hv
  have hx := B.exec
  have hb := B.bytes
  have hr := B.returns
  have hts := atoms_spec (ws := wsX0_findBackward) B.pre
  have hown : s.vm.findClass RX0 = some m.cls := findClass_of_methodNamed B.named
  have hlocks := B.notSynchronized
  have hP : va_P (dC, dI) vwCl [(h0, .inr (0, [.ref q0, .ref q1, .int (nI n), .int (nI k)])), (q0, .inl (cA, 3000, .inl T)), (q1, .inl (cB, 40, .inl G))] s.heap := hP
  have hinX0 : ∀ w ∈ u_ws RX0 TX0 4, w ∈ wsX0_findBackward := fun w h => List.mem_cons_of_mem _ (inX0 w h)
  have hl := lv_entry ([.ref h0, .int x]) (n := 4) (Nat.le_of_ble_eq_true rfl)
  rw [lg_entry_eq]
  generalize (lg_sl ([.ref h0, .int x]) ++ List.replicate (4 - (lg_sl ([.ref h0, .int x])).length) Slot.unset).toArray = ls at hl ⊢
  have hl : lv_has ls 4 [(0, .ref h0), (1, .int x)] := hl
  refine tl_q (fun Q hQ => ?_)
  refine lv_iload_n hx hb dX0_findBackward_0 rfl (lv_at hl 1 rfl) ?_
  refine lv_aload_n hx hb dX0_findBackward_1 rfl (lv_at hl 0 rfl) ?_
  refine va_get (D := (dC, dI)) (ci := 0) (v := .int (nI n)) (C := RX0) (T := TX0) (N := 4) hx hb hts hinX0 hown hK hP 0 rfl rfl 2 (by decide) (hts _ (List.mem_cons_of_mem _ k39)) (fun _ h9 => h9) rfl dX0_findBackward_2 ?_
  refine lv_aload_n hx hb dX0_findBackward_5 rfl (lv_at hl 0 rfl) ?_
  refine va_get (D := (dC, dI)) (ci := 0) (v := .int (nI k)) (C := RX0) (T := TX0) (N := 4) hx hb hts hinX0 hown hK hP 0 rfl rfl 3 (by decide) (hts _ (List.mem_cons_of_mem _ k40)) (fun _ h9 => h9) rfl dX0_findBackward_6 ?_
  refine lv_isub hx hb dX0_findBackward_9 ?_
  have e9 : ((nI n) - (nI k)).toInt = ((n : Nat) : Int) - (((k : Nat) : Int)) := tl_subv (nI_toInt (by omega)) (nI_toInt (by omega)) (by omega) (by omega)
  refine va_mmin hx hb (hml.trans hl.1.symm) hown (hts _ (List.mem_cons_of_mem _ k166)) (hts _ (List.mem_cons_of_mem _ k167)) (hts _ (List.mem_cons_of_mem _ k24)) (hts _ (List.mem_cons_of_mem _ k168)) (Nat.le_of_ble_eq_true rfl) (Nat.le_of_ble_eq_true rfl) (Nat.zero_le _) (Nat.zero_le _) dX0_findBackward_10 ?_
  refine lv_istore_n (lv' := [(2, .int ((if (nI n) - (nI k) < x then (nI n) - (nI k) else x))), (0, .ref h0), (1, .int x)]) hx hb dX0_findBackward_13 rfl hl (by decide) rfl (fun ls hl => ?_)
  refine lv_iload_n hx hb dX0_findBackward_14 rfl (lv_at hl 0 rfl) ?_
  refine lv_istore_n (lv' := [(3, .int ((if (nI n) - (nI k) < x then (nI n) - (nI k) else x))), (2, .int ((if (nI n) - (nI k) < x then (nI n) - (nI k) else x))), (0, .ref h0), (1, .int x)]) hx hb dX0_findBackward_15 rfl hl (by decide) rfl (fun ls hl => ?_)
  have LP16 : ∀ (fu : Nat) (z : Int32) (ls : Array Slot), (z.toInt + 1).toNat < fu → z.toInt + k ≤ n ∨ z.toInt < 0 → (if x.toInt < 0 then (-1 : Int32) else tl_bw n T0 k G0 (min x.toNatClampNeg n + 1)) = tl_bw n T0 k G0 (z.toInt + 1).toNat → lv_has ls 4 [(0, .ref h0), (3, .int z)] → W p l e (headSpec wsX0_findBackward ({ frames := 1, cells := 0, slots := 0, locals := 22 } : Room)).room s m ([.ref h0, .int x] : List Value).toArray below meth c s.heap [] 0 0 Q (F0 m 16 ls []) := by
    intro fu
    induction fu with
    | zero => intro z ls hfu; exact absurd hfu (Nat.not_lt_zero _)
    | succ fu ih =>
      intro z ls hfu hz hf hl
      refine lv_iload_n hx hb dX0_findBackward_16 rfl (lv_at hl 1 rfl) ?_
      refine lv_if_lt (tgt := 36) hx hb dX0_findBackward_17 rfl (fun h17 => ?_) (fun h17 => ?_)
      · skip
        have h17 := (tl_lt (show z.toInt = z.toInt from rfl) (show (0 : Int32).toInt = (0 : Int) from Int32.toInt_zero)).mp h17
        refine lv_iconst (v := (-1 : Int32)) hx hb dX0_findBackward_36 (by decide) ?_
        subst hQ
        exact W.iret (v := (-1 : Int32)) hx hb hr (fun t ht hW => ⟨(-1 : Int32), rfl, (by rw [hf, show (z.toInt + 1).toNat = 0 by omega]; rfl), ht⟩) (fun q h => absurd h List.not_mem_nil) dX0_findBackward_37
      · skip
        have h17 := (not_congr (tl_lt (show z.toInt = z.toInt from rfl) (show (0 : Int32).toInt = (0 : Int) from Int32.toInt_zero))).mp h17
        obtain ⟨a, lta, rfl⟩ := tl_of (x := z) (by omega)
        have ea : (nI a).toInt = ((a : Nat) : Int) := nI_toInt lta
        refine lv_aload_n hx hb dX0_findBackward_20 rfl (lv_at hl 0 rfl) ?_
        refine lv_iload_n hx hb dX0_findBackward_21 rfl (lv_at hl 1 rfl) ?_
        have ea22_0 : (nI a).toInt = ((a : Nat) : Int) := (nI_toInt (by omega))
        refine vp_callSi ((va_runV (As := [.int (nI a)]) (rest := []) ⟨hx, hb, hml, hown, hts⟩ (c_X_scrapStandsAt l dC dI h0 q0 q1 n k cA cB T G T0 G0 hT hG hn hk a (by omega)) (cwV 1 hts (gV_ (fun w h => List.mem_cons_of_mem _ h) k201 k203 k9 k21 k204) rfl rfl rfl (by decide +kernel) ⟨Nat.le_of_ble_eq_true rfl, Nat.le_of_ble_eq_true rfl⟩) ⟨fun a U g mk q => by obtain ⟨q0, qP, qK⟩ := q; exact ⟨q0, qP, va_K.moved (u := U) (U := U.calling g mk a) (Vm.Alike.refl U.vm) qK⟩, va_recv hK hP (ci := 0) (q0 := 0) rfl rfl, fun U hU hW => ⟨rfl, by rw [hU]; exact hP, va_K.moved hW.alike hK⟩⟩ rfl rfl hl.1 rfl (lv_room (Nat.le_of_ble_eq_true rfl)) dX0_findBackward_22 ⟨Nat.le_of_ble_eq_true rfl, Nat.le_of_ble_eq_true rfl⟩).run) (fun r22 w22 => ?_)
        try dsimp only at w22
        refine lv_if_eq (tgt := 30) hx hb dX0_findBackward_25 rfl (fun h25 => ?_) (fun h25 => ?_)
        · skip
          have h25 := (tl_b0 w22).mp h25
          refine lv_iinc (lv' := [(3, .int (nI a - nI 1)), (0, .ref h0)]) (k := 1) (v := nI a - nI 1) hx hb dX0_findBackward_30 hl rfl (tl_dec a) (by decide) rfl (fun ls hl => ?_)
          refine lv_goto (tgt := 16) hx hb dX0_findBackward_33 rfl ?_
          exact ih (nI a - nI 1) ls (by rw [tl_predv (by omega)]; omega) (by rw [tl_predv (by omega)]; omega) (by rw [hf, ea, tl_predv (by omega), show ((a : Int) + 1).toNat = a + 1 by omega, show ((a : Int) - 1 + 1).toNat = a by omega, tl_bw, if_neg (fun q => h25 q.2)]) (lv_sub hl [1, 0] rfl)
        · skip
          have h25 := (tl_b1 w22).mp h25
          refine lv_iload_n hx hb dX0_findBackward_28 rfl (lv_at hl 1 rfl) ?_
          subst hQ
          exact W.iret (v := nI a) hx hb hr (fun t ht hW => ⟨nI a, rfl, (by rw [hf, ea, show ((a : Int) + 1).toNat = a + 1 by omega, tl_bw, if_pos ⟨by omega, h25⟩]), ht⟩) (fun q h => absurd h List.not_mem_nil) dX0_findBackward_29
  exact LP16 _ ((if (nI n) - (nI k) < x then (nI n) - (nI k) else x)) ls (Nat.lt_succ_self _) (tl_bw_i1 e9) (tl_bw_init (by omega) (tl_bw_i2 e9)) (lv_sub hl [2, 0] rfl)
set_option maxHeartbeats 4000000 in
set_option maxRecDepth 100000 in
theorem c_X_get (l : Launch) (dC : Nat → ClassId) (dI : Nat → Nat → Nat) (h0 q0 q1 n k : Nat) (cA cB : ClassId) (T G T0 G0 : Nat → Int32) (hT : ∀ j, j < n → T j = T0 j) (hG : ∀ j, j < k → G j = G0 j) (hn : n ≤ 3000) (hk : k ≤ 40) (x : Int32) : Met l yX0_get wsX0_get ({ frames := 1, cells := 0, slots := 0, locals := 21 } : Room) (va_Pc [.ref h0, .int x] (fun U => va_P (dC, dI) vwCl [(h0, .inr (0, [.ref q0, .ref q1, .int (nI n), .int (nI k)])), (q0, .inl (cA, 3000, .inl T)), (q1, .inl (cB, 40, .inl G))] U.heap ∧ va_K (dC, dI) vwCl [(cA, .int), (cB, .int)] U)) (vp_Si (fun r : Int32 => r = sp_get x n T0)) 0 0 (fun _ => False) := by
  refine Met.ofW (cc := cX0_get) (maxL := 2) (ret := (some .int)) (by decide) rfl ?_
  intro p e s m args below meth c s₁ B hml hv
  obtain ⟨rfl, hP, hK⟩ := hv
  have hx := B.exec
  have hb := B.bytes
  have hr := B.returns
  have hts := atoms_spec (ws := wsX0_get) B.pre
  have hown : s.vm.findClass RX0 = some m.cls := findClass_of_methodNamed B.named
  have hlocks := B.notSynchronized
  have hP : va_P (dC, dI) vwCl [(h0, .inr (0, [.ref q0, .ref q1, .int (nI n), .int (nI k)])), (q0, .inl (cA, 3000, .inl T)), (q1, .inl (cB, 40, .inl G))] s.heap := hP
  have hinX0 : ∀ w ∈ u_ws RX0 TX0 4, w ∈ wsX0_get := fun w h => List.mem_cons_of_mem _ (inX0 w h)
  have hl := lv_entry ([.ref h0, .int x]) (n := 2) (Nat.le_of_ble_eq_true rfl)
  rw [lg_entry_eq]
  generalize (lg_sl ([.ref h0, .int x]) ++ List.replicate (2 - (lg_sl ([.ref h0, .int x])).length) Slot.unset).toArray = ls at hl ⊢
  have hl : lv_has ls 2 [(0, .ref h0), (1, .int x)] := hl
  refine tl_q (fun Q hQ => ?_)
  refine lv_aload_n hx hb dX0_get_0 rfl (lv_at hl 0 rfl) ?_
  refine lv_iload_n hx hb dX0_get_1 rfl (lv_at hl 1 rfl) ?_
  refine vp_callSi ((va_runV (As := [.int x]) (rest := []) ⟨hx, hb, hml, hown, hts⟩ (c_X_isPlace l dC dI h0 q0 q1 n k cA cB T G T0 G0 hT hG hn hk x) (cwV 1 hts (gV_ (fun w h => List.mem_cons_of_mem _ h) k177 k179 k7 k21 k180) rfl rfl rfl (by decide +kernel) ⟨Nat.le_of_ble_eq_true rfl, Nat.le_of_ble_eq_true rfl⟩) ⟨fun a U g mk q => by obtain ⟨q0, qP, qK⟩ := q; exact ⟨q0, qP, va_K.moved (u := U) (U := U.calling g mk a) (Vm.Alike.refl U.vm) qK⟩, va_recv hK hP (ci := 0) (q0 := 0) rfl rfl, fun U hU hW => ⟨rfl, by rw [hU]; exact hP, va_K.moved hW.alike hK⟩⟩ rfl rfl hl.1 rfl (lv_room (Nat.le_of_ble_eq_true rfl)) dX0_get_2 ⟨Nat.le_of_ble_eq_true rfl, Nat.le_of_ble_eq_true rfl⟩).run) (fun r2 w2 => ?_)
  try dsimp only at w2
  refine lv_if_eq (tgt := 17) hx hb dX0_get_5 rfl (fun h5 => ?_) (fun h5 => ?_)
  · skip
    have h5 := (tl_b0 w2).mp h5
    refine lv_iconst (v := (-1 : Int32)) hx hb dX0_get_17 (by decide) ?_
    subst hQ
    exact W.iret (v := (-1 : Int32)) hx hb hr (fun t ht hW => ⟨(-1 : Int32), rfl, (by (try dsimp only); unfold sp_get; (repeat' split) <;> first | rfl | (exfalso; omega)), ht⟩) (fun q h => absurd h List.not_mem_nil) dX0_get_18
  · skip
    have h5 := (tl_b1 w2).mp h5
    obtain ⟨a, lta, rfl⟩ := tl_of (x := x) (by omega)
    have ea : (nI a).toInt = ((a : Nat) : Int) := nI_toInt lta
    refine lv_aload_n hx hb dX0_get_8 rfl (lv_at hl 0 rfl) ?_
    refine va_get (D := (dC, dI)) (ci := 0) (v := .ref q0) (C := RX0) (T := TX0) (N := 4) hx hb hts hinX0 hown hK hP 0 rfl rfl 0 (by decide) (hts _ (List.mem_cons_of_mem _ k37)) (fun _ h9 => h9) rfl dX0_get_9 ?_
    refine lv_iload_n hx hb dX0_get_12 rfl (lv_at hl 1 rfl) ?_
    refine tl_iald (v := T0 a) hx hb hK hP 1 0 rfl rfl (by omega) (by decide) (hT _ (by omega)) dX0_get_13 ?_
    refine lv_goto (tgt := 18) hx hb dX0_get_14 rfl ?_
    subst hQ
    exact W.iret (v := T0 a) hx hb hr (fun t ht hW => ⟨T0 a, rfl, (by (try dsimp only); unfold sp_get; (try simp only [nI_clamp lta]); (repeat' split) <;> first | rfl | (exfalso; omega)), ht⟩) (fun q h => absurd h List.not_mem_nil) dX0_get_18
set_option maxHeartbeats 4000000 in
set_option maxRecDepth 100000 in
theorem c_X_scrap (l : Launch) (dC : Nat → ClassId) (dI : Nat → Nat → Nat) (h0 q0 q1 n k : Nat) (cA cB : ClassId) (T G T0 G0 : Nat → Int32) (hT : ∀ j, j < n → T j = T0 j) (hG : ∀ j, j < k → G j = G0 j) (hn : n ≤ 3000) (hk : k ≤ 40) (x : Int32) : Met l yX0_scrap wsX0_scrap ({ frames := 0, cells := 0, slots := 0, locals := 0 } : Room) (va_Pc [.ref h0, .int x] (fun U => va_P (dC, dI) vwCl [(h0, .inr (0, [.ref q0, .ref q1, .int (nI n), .int (nI k)])), (q0, .inl (cA, 3000, .inl T)), (q1, .inl (cB, 40, .inl G))] U.heap ∧ va_K (dC, dI) vwCl [(cA, .int), (cB, .int)] U)) (vp_Si (fun r : Int32 => r = sp_scrap x k G0)) 0 0 (fun _ => False) := by
  refine Met.ofW (cc := cX0_scrap) (maxL := 2) (ret := (some .int)) (by decide) rfl ?_
  intro p e s m args below meth c s₁ B hml hv
  obtain ⟨rfl, hP, hK⟩ := hv
  have hx := B.exec
  have hb := B.bytes
  have hr := B.returns
  have hts := atoms_spec (ws := wsX0_scrap) B.pre
  have hown : s.vm.findClass RX0 = some m.cls := findClass_of_methodNamed B.named
  have hlocks := B.notSynchronized
  have hP : va_P (dC, dI) vwCl [(h0, .inr (0, [.ref q0, .ref q1, .int (nI n), .int (nI k)])), (q0, .inl (cA, 3000, .inl T)), (q1, .inl (cB, 40, .inl G))] s.heap := hP
  have hinX0 : ∀ w ∈ u_ws RX0 TX0 4, w ∈ wsX0_scrap := fun w h => List.mem_cons_of_mem _ (inX0 w h)
  have hl := lv_entry ([.ref h0, .int x]) (n := 2) (Nat.le_of_ble_eq_true rfl)
  rw [lg_entry_eq]
  generalize (lg_sl ([.ref h0, .int x]) ++ List.replicate (2 - (lg_sl ([.ref h0, .int x])).length) Slot.unset).toArray = ls at hl ⊢
  have hl : lv_has ls 2 [(0, .ref h0), (1, .int x)] := hl
  refine tl_q (fun Q hQ => ?_)
  refine lv_iload_n hx hb dX0_scrap_0 rfl (lv_at hl 1 rfl) ?_
  refine lv_if_lt (tgt := 21) hx hb dX0_scrap_1 rfl (fun h1 => ?_) (fun h1 => ?_)
  · skip
    have h1 := (tl_lt (show x.toInt = x.toInt from rfl) (show (0 : Int32).toInt = (0 : Int) from Int32.toInt_zero)).mp h1
    refine lv_iconst (v := (-1 : Int32)) hx hb dX0_scrap_21 (by decide) ?_
    subst hQ
    exact W.iret (v := (-1 : Int32)) hx hb hr (fun t ht hW => ⟨(-1 : Int32), rfl, (by (try dsimp only); unfold sp_scrap; (repeat' split) <;> first | rfl | (exfalso; omega)), ht⟩) (fun q h => absurd h List.not_mem_nil) dX0_scrap_22
  · skip
    have h1 := (not_congr (tl_lt (show x.toInt = x.toInt from rfl) (show (0 : Int32).toInt = (0 : Int) from Int32.toInt_zero))).mp h1
    refine lv_iload_n hx hb dX0_scrap_4 rfl (lv_at hl 1 rfl) ?_
    refine lv_aload_n hx hb dX0_scrap_5 rfl (lv_at hl 0 rfl) ?_
    refine va_get (D := (dC, dI)) (ci := 0) (v := .int (nI k)) (C := RX0) (T := TX0) (N := 4) hx hb hts hinX0 hown hK hP 0 rfl rfl 3 (by decide) (hts _ (List.mem_cons_of_mem _ k40)) (fun _ h9 => h9) rfl dX0_scrap_6 ?_
    refine lv_icmp_ge (tgt := 21) hx hb dX0_scrap_9 rfl (fun h9 => ?_) (fun h9 => ?_)
    · skip
      have h9 := (tl_le (show (nI k).toInt = ((k : Nat) : Int) from (nI_toInt (by omega))) (show x.toInt = x.toInt from rfl)).mp h9
      refine lv_iconst (v := (-1 : Int32)) hx hb dX0_scrap_21 (by decide) ?_
      subst hQ
      exact W.iret (v := (-1 : Int32)) hx hb hr (fun t ht hW => ⟨(-1 : Int32), rfl, (by (try dsimp only); unfold sp_scrap; (repeat' split) <;> first | rfl | (exfalso; omega)), ht⟩) (fun q h => absurd h List.not_mem_nil) dX0_scrap_22
    · skip
      have h9 := (not_congr (tl_le (show (nI k).toInt = ((k : Nat) : Int) from (nI_toInt (by omega))) (show x.toInt = x.toInt from rfl))).mp h9
      obtain ⟨a, lta, rfl⟩ := tl_of (x := x) (by omega)
      have ea : (nI a).toInt = ((a : Nat) : Int) := nI_toInt lta
      refine lv_aload_n hx hb dX0_scrap_12 rfl (lv_at hl 0 rfl) ?_
      refine va_get (D := (dC, dI)) (ci := 0) (v := .ref q1) (C := RX0) (T := TX0) (N := 4) hx hb hts hinX0 hown hK hP 0 rfl rfl 1 (by decide) (hts _ (List.mem_cons_of_mem _ k38)) (fun _ h9 => h9) rfl dX0_scrap_13 ?_
      refine lv_iload_n hx hb dX0_scrap_16 rfl (lv_at hl 1 rfl) ?_
      refine tl_iald (v := G0 a) hx hb hK hP 2 1 rfl rfl (by omega) (by decide) (hG _ (by omega)) dX0_scrap_17 ?_
      refine lv_goto (tgt := 22) hx hb dX0_scrap_18 rfl ?_
      subst hQ
      exact W.iret (v := G0 a) hx hb hr (fun t ht hW => ⟨G0 a, rfl, (by (try dsimp only); unfold sp_scrap; (try simp only [nI_clamp lta]); (repeat' split) <;> first | rfl | (exfalso; omega)), ht⟩) (fun q h => absurd h List.not_mem_nil) dX0_scrap_22
set_option maxHeartbeats 4000000 in
set_option maxRecDepth 100000 in
theorem c_X_look (l : Launch) (dC : Nat → ClassId) (dI : Nat → Nat → Nat) (h0 q0 q1 n k : Nat) (cA cB : ClassId) (T G T0 G0 : Nat → Int32) (hT : ∀ j, j < n → T j = T0 j) (hG : ∀ j, j < k → G j = G0 j) (hn : n ≤ 3000) (hk : k ≤ 40) (x : Int32) : Met l yX0_look wsX0_look ({ frames := 1, cells := 0, slots := 0, locals := 22 } : Room) (va_Pc [.ref h0, .int x] (fun U => va_P (dC, dI) vwCl [(h0, .inr (0, [.ref q0, .ref q1, .int (nI n), .int (nI k)])), (q0, .inl (cA, 3000, .inl T)), (q1, .inl (cB, 40, .inl G))] U.heap ∧ va_K (dC, dI) vwCl [(cA, .int), (cB, .int)] U)) (vp_Si (fun r : Int32 => r = sp_look x n T0 k)) 0 0 (fun _ => False) := by
  refine Met.ofW (cc := cX0_look) (maxL := 2) (ret := (some .int)) (by decide) rfl ?_
  intro p e s m args below meth c s₁ B hml hv
  obtain ⟨rfl, hP, hK⟩ := hv
  have hx := B.exec
  have hb := B.bytes
  have hr := B.returns
  have hts := atoms_spec (ws := wsX0_look) B.pre
  have hown : s.vm.findClass RX0 = some m.cls := findClass_of_methodNamed B.named
  have hlocks := B.notSynchronized
  have hP : va_P (dC, dI) vwCl [(h0, .inr (0, [.ref q0, .ref q1, .int (nI n), .int (nI k)])), (q0, .inl (cA, 3000, .inl T)), (q1, .inl (cB, 40, .inl G))] s.heap := hP
  have hinX0 : ∀ w ∈ u_ws RX0 TX0 4, w ∈ wsX0_look := fun w h => List.mem_cons_of_mem _ (inX0 w h)
  have hl := lv_entry ([.ref h0, .int x]) (n := 2) (Nat.le_of_ble_eq_true rfl)
  rw [lg_entry_eq]
  generalize (lg_sl ([.ref h0, .int x]) ++ List.replicate (2 - (lg_sl ([.ref h0, .int x])).length) Slot.unset).toArray = ls at hl ⊢
  have hl : lv_has ls 2 [(0, .ref h0), (1, .int x)] := hl
  refine tl_q (fun Q hQ => ?_)
  refine lv_iload_n hx hb dX0_look_0 rfl (lv_at hl 1 rfl) ?_
  have sw1 : x.toInt = x.toInt := rfl
  by_cases hs1_0 : x.toInt = 0
  · skip
    refine lv_tableIn (off := 27) (tgt := 28) hx hb dX0_look_1 (by omega) (by omega) (by rw [sw1, hs1_0]; first | done | rfl) rfl ?_
    refine lv_aload_n hx hb dX0_look_28 rfl (lv_at hl 0 rfl) ?_
    refine va_get (D := (dC, dI)) (ci := 0) (v := .int (nI n)) (C := RX0) (T := TX0) (N := 4) hx hb hts hinX0 hown hK hP 0 rfl rfl 2 (by decide) (hts _ (List.mem_cons_of_mem _ k39)) (fun _ h9 => h9) rfl dX0_look_29 ?_
    subst hQ
    exact W.iret (v := nI n) hx hb hr (fun t ht hW => ⟨nI n, rfl, (by (try dsimp only); unfold sp_look; (repeat' split) <;> first | rfl | (exfalso; omega)), ht⟩) (fun q h => absurd h List.not_mem_nil) dX0_look_32
  by_cases hs1_1 : x.toInt = 1
  · skip
    refine lv_tableIn (off := 32) (tgt := 33) hx hb dX0_look_1 (by omega) (by omega) (by rw [sw1, hs1_1]; first | done | rfl) rfl ?_
    refine lv_aload_n hx hb dX0_look_33 rfl (lv_at hl 0 rfl) ?_
    refine va_get (D := (dC, dI)) (ci := 0) (v := .int (nI k)) (C := RX0) (T := TX0) (N := 4) hx hb hts hinX0 hown hK hP 0 rfl rfl 3 (by decide) (hts _ (List.mem_cons_of_mem _ k40)) (fun _ h9 => h9) rfl dX0_look_34 ?_
    subst hQ
    exact W.iret (v := nI k) hx hb hr (fun t ht hW => ⟨nI k, rfl, (by (try dsimp only); unfold sp_look; (repeat' split) <;> first | rfl | (exfalso; omega)), ht⟩) (fun q h => absurd h List.not_mem_nil) dX0_look_37
  by_cases hs1_2 : x.toInt = 2
  · skip
    refine lv_tableIn (off := 37) (tgt := 38) hx hb dX0_look_1 (by omega) (by omega) (by rw [sw1, hs1_2]; first | done | rfl) rfl ?_
    refine lv_aload_n hx hb dX0_look_38 rfl (lv_at hl 0 rfl) ?_
    refine vp_callSi ((va_runV (As := []) (rest := []) ⟨hx, hb, hml, hown, hts⟩ (c_X_sumOfText l dC dI h0 q0 q1 n k cA cB T G T0 G0 hT hG hn hk ) (cwV 0 hts (gV_ (fun w h => List.mem_cons_of_mem _ h) k224 k226 k11 k21 k227) rfl rfl rfl (by decide +kernel) ⟨Nat.le_of_ble_eq_true rfl, Nat.le_of_ble_eq_true rfl⟩) ⟨fun a U g mk q => by obtain ⟨q0, qP, qK⟩ := q; exact ⟨q0, qP, va_K.moved (u := U) (U := U.calling g mk a) (Vm.Alike.refl U.vm) qK⟩, va_recv hK hP (ci := 0) (q0 := 0) rfl rfl, fun U hU hW => ⟨rfl, by rw [hU]; exact hP, va_K.moved hW.alike hK⟩⟩ rfl rfl hl.1 rfl (lv_room (Nat.le_of_ble_eq_true rfl)) dX0_look_39 ⟨Nat.le_of_ble_eq_true rfl, Nat.le_of_ble_eq_true rfl⟩).run) (fun r39 w39 => ?_)
    try dsimp only at w39
    subst hQ
    exact W.iret (v := r39) hx hb hr (fun t ht hW => ⟨r39, rfl, (by (try dsimp only); unfold sp_look; (repeat' split) <;> first | rfl | (exfalso; omega) | exact w39), ht⟩) (fun q h => absurd h List.not_mem_nil) dX0_look_42
  refine lv_tableOut (tgt := 43) hx hb dX0_look_1 (by omega) rfl ?_
  refine lv_iconst (v := (-1 : Int32)) hx hb dX0_look_43 (by decide) ?_
  subst hQ
  exact W.iret (v := (-1 : Int32)) hx hb hr (fun t ht hW => ⟨(-1 : Int32), rfl, (by (try dsimp only); unfold sp_look; (repeat' split) <;> first | rfl | (exfalso; omega)), ht⟩) (fun q h => absurd h List.not_mem_nil) dX0_look_44
set_option maxHeartbeats 4000000 in
set_option maxRecDepth 100000 in
theorem c_X_compare (l : Launch) (dC : Nat → ClassId) (dI : Nat → Nat → Nat) (h0 q0 q1 n k : Nat) (cA cB : ClassId) (T G T0 G0 : Nat → Int32) (hT : ∀ j, j < n → T j = T0 j) (hG : ∀ j, j < k → G j = G0 j) (hn : n ≤ 3000) (hk : k ≤ 40)  : Met l yX0_compare wsX0_compare ({ frames := 1, cells := 0, slots := 0, locals := 21 } : Room) (va_Pc [.ref h0] (fun U => va_P (dC, dI) vwCl [(h0, .inr (0, [.ref q0, .ref q1, .int (nI n), .int (nI k)])), (q0, .inl (cA, 3000, .inl T)), (q1, .inl (cB, 40, .inl G))] U.heap ∧ va_K (dC, dI) vwCl [(cA, .int), (cB, .int)] U)) (vp_Si (fun r : Int32 => r = sp_compare n T0 k G0)) 0 0 (fun _ => False) := by
  refine Met.ofW (cc := cX0_compare) (maxL := 3) (ret := (some .int)) (by decide) rfl ?_
  intro p e s m args below meth c s₁ B hml hv
  obtain ⟨rfl, hP, hK⟩ := hv
  have hx := B.exec
  have hb := B.bytes
  have hr := B.returns
  have hts := atoms_spec (ws := wsX0_compare) B.pre
  have hown : s.vm.findClass RX0 = some m.cls := findClass_of_methodNamed B.named
  have hlocks := B.notSynchronized
  have hP : va_P (dC, dI) vwCl [(h0, .inr (0, [.ref q0, .ref q1, .int (nI n), .int (nI k)])), (q0, .inl (cA, 3000, .inl T)), (q1, .inl (cB, 40, .inl G))] s.heap := hP
  have hinX0 : ∀ w ∈ u_ws RX0 TX0 4, w ∈ wsX0_compare := fun w h => List.mem_cons_of_mem _ (inX0 w h)
  have hl := lv_entry ([.ref h0]) (n := 3) (Nat.le_of_ble_eq_true rfl)
  rw [lg_entry_eq]
  generalize (lg_sl ([.ref h0]) ++ List.replicate (3 - (lg_sl ([.ref h0])).length) Slot.unset).toArray = ls at hl ⊢
  have hl : lv_has ls 3 [(0, .ref h0)] := hl
  refine tl_q (fun Q hQ => ?_)
  refine lv_aload_n hx hb dX0_compare_0 rfl (lv_at hl 0 rfl) ?_
  refine va_get (D := (dC, dI)) (ci := 0) (v := .int (nI n)) (C := RX0) (T := TX0) (N := 4) hx hb hts hinX0 hown hK hP 0 rfl rfl 2 (by decide) (hts _ (List.mem_cons_of_mem _ k39)) (fun _ h9 => h9) rfl dX0_compare_1 ?_
  refine lv_aload_n hx hb dX0_compare_4 rfl (lv_at hl 0 rfl) ?_
  refine va_get (D := (dC, dI)) (ci := 0) (v := .int (nI k)) (C := RX0) (T := TX0) (N := 4) hx hb hts hinX0 hown hK hP 0 rfl rfl 3 (by decide) (hts _ (List.mem_cons_of_mem _ k40)) (fun _ h9 => h9) rfl dX0_compare_5 ?_
  refine va_mmin hx hb (hml.trans hl.1.symm) hown (hts _ (List.mem_cons_of_mem _ k166)) (hts _ (List.mem_cons_of_mem _ k167)) (hts _ (List.mem_cons_of_mem _ k24)) (hts _ (List.mem_cons_of_mem _ k168)) (Nat.le_of_ble_eq_true rfl) (Nat.le_of_ble_eq_true rfl) (Nat.zero_le _) (Nat.zero_le _) dX0_compare_8 ?_
  refine tl_top (y := nI (min n k)) (tl_min (by omega) (by omega)) ?_
  refine lv_istore_n (lv' := [(1, .int (nI (min n k))), (0, .ref h0)]) hx hb dX0_compare_11 rfl hl (by decide) rfl (fun ls hl => ?_)
  refine lv_iconst (v := nI 0) hx hb dX0_compare_12 (by decide) ?_
  refine lv_istore_n (lv' := [(2, .int (nI 0)), (1, .int (nI (min n k))), (0, .ref h0)]) hx hb dX0_compare_13 rfl hl (by decide) rfl (fun ls hl => ?_)
  have LP14 : ∀ (fu : Nat) (j : Nat) (ls : Array Slot), min n k - j < fu → j ≤ min n k → sp_compare n T0 k G0 = tl_cmp T0 G0 (tl_ord n k) (min n k - j) j → lv_has ls 3 [(0, .ref h0), (1, .int (nI (min n k))), (2, .int (nI j))] → W p l e (headSpec wsX0_compare ({ frames := 1, cells := 0, slots := 0, locals := 21 } : Room)).room s m ([.ref h0] : List Value).toArray below meth c s.heap [] 0 0 Q (F0 m 14 ls []) := by
    intro fu
    induction fu with
    | zero => intro j ls hfu; exact absurd hfu (Nat.not_lt_zero _)
    | succ fu ih =>
      intro j ls hfu hj hf hl
      refine lv_iload_n hx hb dX0_compare_14 rfl (lv_at hl 2 rfl) ?_
      refine lv_iload_n hx hb dX0_compare_15 rfl (lv_at hl 1 rfl) ?_
      refine lv_icmp_ge (tgt := 56) hx hb dX0_compare_16 rfl (fun h16 => ?_) (fun h16 => ?_)
      · skip
        have h16 := (tl_le (show (nI (min n k)).toInt = ((min n k : Nat) : Int) from (nI_toInt (by omega))) (show (nI j).toInt = ((j : Nat) : Int) from (nI_toInt (by omega)))).mp h16
        refine lv_aload_n hx hb dX0_compare_56 rfl (lv_at hl 0 rfl) ?_
        refine va_get (D := (dC, dI)) (ci := 0) (v := .int (nI n)) (C := RX0) (T := TX0) (N := 4) hx hb hts hinX0 hown hK hP 0 rfl rfl 2 (by decide) (hts _ (List.mem_cons_of_mem _ k39)) (fun _ h9 => h9) rfl dX0_compare_57 ?_
        refine lv_aload_n hx hb dX0_compare_60 rfl (lv_at hl 0 rfl) ?_
        refine va_get (D := (dC, dI)) (ci := 0) (v := .int (nI k)) (C := RX0) (T := TX0) (N := 4) hx hb hts hinX0 hown hK hP 0 rfl rfl 3 (by decide) (hts _ (List.mem_cons_of_mem _ k40)) (fun _ h9 => h9) rfl dX0_compare_61 ?_
        have ea64_0 : (nI n).toInt = ((n : Nat) : Int) := (nI_toInt (by omega))
        have ea64_1 : (nI k).toInt = ((k : Nat) : Int) := (nI_toInt (by omega))
        refine vp_callSi ((va_runS (As := [.int (nI n), .int (nI k)]) (rest := []) ⟨hx, hb, hml, hown, hts⟩ (c_X_order l (nI n) (nI k)) (va_cwS 2 hts (gS_ (fun w h => List.mem_cons_of_mem _ h) k236 k237 k21 k238) rfl rfl rfl (by decide +kernel) ⟨Nat.le_of_ble_eq_true rfl, Nat.le_of_ble_eq_true rfl⟩) ⟨fun a U g mk q => q, fun U hU hW => ⟨rfl, trivial⟩⟩ rfl rfl hl.1 rfl (lv_room (Nat.le_of_ble_eq_true rfl)) dX0_compare_64 ⟨Nat.le_of_ble_eq_true rfl, Nat.le_of_ble_eq_true rfl⟩).run) (fun r64 w64 => ?_)
        try dsimp only at w64
        subst hQ
        exact W.iret (v := r64) hx hb hr (fun t ht hW => ⟨r64, rfl, (by rw [hf, show min n k - j = 0 by omega, w64]; exact tl_ordI (by omega) (by omega)), ht⟩) (fun q h => absurd h List.not_mem_nil) dX0_compare_67
      · skip
        have h16 := (not_congr (tl_le (show (nI (min n k)).toInt = ((min n k : Nat) : Int) from (nI_toInt (by omega))) (show (nI j).toInt = ((j : Nat) : Int) from (nI_toInt (by omega))))).mp h16
        refine lv_aload_n hx hb dX0_compare_19 rfl (lv_at hl 0 rfl) ?_
        refine va_get (D := (dC, dI)) (ci := 0) (v := .ref q0) (C := RX0) (T := TX0) (N := 4) hx hb hts hinX0 hown hK hP 0 rfl rfl 0 (by decide) (hts _ (List.mem_cons_of_mem _ k37)) (fun _ h9 => h9) rfl dX0_compare_20 ?_
        refine lv_iload_n hx hb dX0_compare_23 rfl (lv_at hl 2 rfl) ?_
        refine tl_iald (v := T0 j) hx hb hK hP 1 0 rfl rfl (by omega) (by decide) (hT _ (by omega)) dX0_compare_24 ?_
        refine lv_aload_n hx hb dX0_compare_25 rfl (lv_at hl 0 rfl) ?_
        refine va_get (D := (dC, dI)) (ci := 0) (v := .ref q1) (C := RX0) (T := TX0) (N := 4) hx hb hts hinX0 hown hK hP 0 rfl rfl 1 (by decide) (hts _ (List.mem_cons_of_mem _ k38)) (fun _ h9 => h9) rfl dX0_compare_26 ?_
        refine lv_iload_n hx hb dX0_compare_29 rfl (lv_at hl 2 rfl) ?_
        refine tl_iald (v := G0 j) hx hb hK hP 2 1 rfl rfl (by omega) (by decide) (hG _ (by omega)) dX0_compare_30 ?_
        refine lv_icmp_eq (tgt := 50) hx hb dX0_compare_31 rfl (fun h31 => ?_) (fun h31 => ?_)
        · skip
          have h31 := (tl_eq (show (T0 j).toInt = (T0 j).toInt from rfl) (show (G0 j).toInt = (G0 j).toInt from rfl)).mp h31
          refine lv_iinc (lv' := [(2, .int (nI (j + 1))), (0, .ref h0), (1, .int (nI (min n k)))]) (k := 2) (v := nI (j + 1)) hx hb dX0_compare_50 hl rfl (tl_inc1 _) (by decide) rfl (fun ls hl => ?_)
          refine lv_goto (tgt := 14) hx hb dX0_compare_53 rfl ?_
          exact ih (j + 1) ls (by omega) (by omega) (by rw [hf, tl_cmp_step (by omega), if_pos h31]) (lv_sub hl [1, 2, 0] rfl)
        · skip
          have h31 := (not_congr (tl_eq (show (T0 j).toInt = (T0 j).toInt from rfl) (show (G0 j).toInt = (G0 j).toInt from rfl))).mp h31
          refine lv_aload_n hx hb dX0_compare_34 rfl (lv_at hl 0 rfl) ?_
          refine va_get (D := (dC, dI)) (ci := 0) (v := .ref q0) (C := RX0) (T := TX0) (N := 4) hx hb hts hinX0 hown hK hP 0 rfl rfl 0 (by decide) (hts _ (List.mem_cons_of_mem _ k37)) (fun _ h9 => h9) rfl dX0_compare_35 ?_
          refine lv_iload_n hx hb dX0_compare_38 rfl (lv_at hl 2 rfl) ?_
          refine tl_iald (v := T0 j) hx hb hK hP 1 0 rfl rfl (by omega) (by decide) (hT _ (by omega)) dX0_compare_39 ?_
          refine lv_aload_n hx hb dX0_compare_40 rfl (lv_at hl 0 rfl) ?_
          refine va_get (D := (dC, dI)) (ci := 0) (v := .ref q1) (C := RX0) (T := TX0) (N := 4) hx hb hts hinX0 hown hK hP 0 rfl rfl 1 (by decide) (hts _ (List.mem_cons_of_mem _ k38)) (fun _ h9 => h9) rfl dX0_compare_41 ?_
          refine lv_iload_n hx hb dX0_compare_44 rfl (lv_at hl 2 rfl) ?_
          refine tl_iald (v := G0 j) hx hb hK hP 2 1 rfl rfl (by omega) (by decide) (hG _ (by omega)) dX0_compare_45 ?_
          refine vp_callSi ((va_runS (As := [.int (T0 j), .int (G0 j)]) (rest := []) ⟨hx, hb, hml, hown, hts⟩ (c_X_order l (T0 j) (G0 j)) (va_cwS 2 hts (gS_ (fun w h => List.mem_cons_of_mem _ h) k236 k237 k21 k238) rfl rfl rfl (by decide +kernel) ⟨Nat.le_of_ble_eq_true rfl, Nat.le_of_ble_eq_true rfl⟩) ⟨fun a U g mk q => q, fun U hU hW => ⟨rfl, trivial⟩⟩ rfl rfl hl.1 rfl (lv_room (Nat.le_of_ble_eq_true rfl)) dX0_compare_46 ⟨Nat.le_of_ble_eq_true rfl, Nat.le_of_ble_eq_true rfl⟩).run) (fun r46 w46 => ?_)
          try dsimp only at w46
          subst hQ
          exact W.iret (v := r46) hx hb hr (fun t ht hW => ⟨r46, rfl, (by rw [hf, tl_cmp_step (by omega), if_neg h31, w46, if_neg h31]), ht⟩) (fun q h => absurd h List.not_mem_nil) dX0_compare_49
  exact LP14 _ 0 ls (Nat.lt_succ_self _) (by omega) (by rfl) (lv_sub hl [2, 1, 0] rfl)
set_option maxHeartbeats 4000000 in
set_option maxRecDepth 100000 in
theorem c_X_find (l : Launch) (dC : Nat → ClassId) (dI : Nat → Nat → Nat) (h0 q0 q1 n k : Nat) (cA cB : ClassId) (T G T0 G0 : Nat → Int32) (hT : ∀ j, j < n → T j = T0 j) (hG : ∀ j, j < k → G j = G0 j) (hn : n ≤ 3000) (hk : k ≤ 40) (x d : Int32) : Met l yX0_find wsX0_find ({ frames := 2, cells := 0, slots := 0, locals := 46 } : Room) (va_Pc [.ref h0, .int x, .int d] (fun U => va_P (dC, dI) vwCl [(h0, .inr (0, [.ref q0, .ref q1, .int (nI n), .int (nI k)])), (q0, .inl (cA, 3000, .inl T)), (q1, .inl (cB, 40, .inl G))] U.heap ∧ va_K (dC, dI) vwCl [(cA, .int), (cB, .int)] U)) (vp_Si (fun r : Int32 => r = sp_find x d n T0 k G0)) 0 0 (fun _ => False) := by
  refine Met.ofW (cc := cX0_find) (maxL := 3) (ret := (some .int)) (by decide) rfl ?_
  intro p e s m args below meth c s₁ B hml hv
  obtain ⟨rfl, hP, hK⟩ := hv
  have hx := B.exec
  have hb := B.bytes
  have hr := B.returns
  have hts := atoms_spec (ws := wsX0_find) B.pre
  have hown : s.vm.findClass RX0 = some m.cls := findClass_of_methodNamed B.named
  have hlocks := B.notSynchronized
  have hP : va_P (dC, dI) vwCl [(h0, .inr (0, [.ref q0, .ref q1, .int (nI n), .int (nI k)])), (q0, .inl (cA, 3000, .inl T)), (q1, .inl (cB, 40, .inl G))] s.heap := hP
  have hinX0 : ∀ w ∈ u_ws RX0 TX0 4, w ∈ wsX0_find := fun w h => List.mem_cons_of_mem _ (inX0 w h)
  have hl := lv_entry ([.ref h0, .int x, .int d]) (n := 3) (Nat.le_of_ble_eq_true rfl)
  rw [lg_entry_eq]
  generalize (lg_sl ([.ref h0, .int x, .int d]) ++ List.replicate (3 - (lg_sl ([.ref h0, .int x, .int d])).length) Slot.unset).toArray = ls at hl ⊢
  have hl : lv_has ls 3 [(0, .ref h0), (1, .int x), (2, .int d)] := hl
  refine tl_q (fun Q hQ => ?_)
  refine lv_iload_n hx hb dX0_find_0 rfl (lv_at hl 2 rfl) ?_
  refine lv_if_eq (tgt := 12) hx hb dX0_find_1 rfl (fun h1 => ?_) (fun h1 => ?_)
  · skip
    have h1 := (tl_eq (show d.toInt = d.toInt from rfl) (show (0 : Int32).toInt = (0 : Int) from Int32.toInt_zero)).mp h1
    refine lv_aload_n hx hb dX0_find_12 rfl (lv_at hl 0 rfl) ?_
    refine lv_iload_n hx hb dX0_find_13 rfl (lv_at hl 1 rfl) ?_
    refine vp_callSi ((va_runV (As := [.int x]) (rest := []) ⟨hx, hb, hml, hown, hts⟩ (c_X_findForward l dC dI h0 q0 q1 n k cA cB T G T0 G0 hT hG hn hk x) (cwV 1 hts (gV_ (fun w h => List.mem_cons_of_mem _ h) k205 k207 k10 k21 k208) rfl rfl rfl (by decide +kernel) ⟨Nat.le_of_ble_eq_true rfl, Nat.le_of_ble_eq_true rfl⟩) ⟨fun a U g mk q => by obtain ⟨q0, qP, qK⟩ := q; exact ⟨q0, qP, va_K.moved (u := U) (U := U.calling g mk a) (Vm.Alike.refl U.vm) qK⟩, va_recv hK hP (ci := 0) (q0 := 0) rfl rfl, fun U hU hW => ⟨rfl, by rw [hU]; exact hP, va_K.moved hW.alike hK⟩⟩ rfl rfl hl.1 rfl (lv_room (Nat.le_of_ble_eq_true rfl)) dX0_find_14 ⟨Nat.le_of_ble_eq_true rfl, Nat.le_of_ble_eq_true rfl⟩).run) (fun r14 w14 => ?_)
    try dsimp only at w14
    subst hQ
    exact W.iret (v := r14) hx hb hr (fun t ht hW => ⟨r14, rfl, (by unfold sp_find; first | (rw [if_pos h1]; assumption) | (rw [if_neg h1]; assumption)), ht⟩) (fun q h => absurd h List.not_mem_nil) dX0_find_17
  · skip
    have h1 := (not_congr (tl_eq (show d.toInt = d.toInt from rfl) (show (0 : Int32).toInt = (0 : Int) from Int32.toInt_zero))).mp h1
    refine lv_aload_n hx hb dX0_find_4 rfl (lv_at hl 0 rfl) ?_
    refine lv_iload_n hx hb dX0_find_5 rfl (lv_at hl 1 rfl) ?_
    refine vp_callSi ((va_runV (As := [.int x]) (rest := []) ⟨hx, hb, hml, hown, hts⟩ (c_X_findBackward l dC dI h0 q0 q1 n k cA cB T G T0 G0 hT hG hn hk x) (cwV 1 hts (gV_ (fun w h => List.mem_cons_of_mem _ h) k197 k199 k8 k21 k200) rfl rfl rfl (by decide +kernel) ⟨Nat.le_of_ble_eq_true rfl, Nat.le_of_ble_eq_true rfl⟩) ⟨fun a U g mk q => by obtain ⟨q0, qP, qK⟩ := q; exact ⟨q0, qP, va_K.moved (u := U) (U := U.calling g mk a) (Vm.Alike.refl U.vm) qK⟩, va_recv hK hP (ci := 0) (q0 := 0) rfl rfl, fun U hU hW => ⟨rfl, by rw [hU]; exact hP, va_K.moved hW.alike hK⟩⟩ rfl rfl hl.1 rfl (lv_room (Nat.le_of_ble_eq_true rfl)) dX0_find_6 ⟨Nat.le_of_ble_eq_true rfl, Nat.le_of_ble_eq_true rfl⟩).run) (fun r6 w6 => ?_)
    try dsimp only at w6
    refine lv_goto (tgt := 17) hx hb dX0_find_9 rfl ?_
    subst hQ
    exact W.iret (v := r6) hx hb hr (fun t ht hW => ⟨r6, rfl, (by unfold sp_find; first | (rw [if_pos h1]; assumption) | (rw [if_neg h1]; assumption)), ht⟩) (fun q h => absurd h List.not_mem_nil) dX0_find_17
