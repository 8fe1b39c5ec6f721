set_option maxHeartbeats 4000000 in
set_option maxRecDepth 100000 in
theorem c_M_find (l : Launch) (dC : Nat → ClassId) (dI : Nat → Nat → Nat) (h0 q0 q1 q2 n k : Nat) (cA cB cC : ClassId) (T G T0 G0 : Nat → Int32) (hT : ∀ j, j < n → T j = T0 j) (hG : ∀ j, j < k → G j = G0 j) (hn : n ≤ 3000) (hk : k ≤ 40) (E : Nat → Int32) (d : Int32) (x fl : Int32) : Met l yX1_find wsX1_find ({ frames := 1, cells := 0, slots := 0, locals := 22 } : Room) (va_Pc [.ref h0, .int x, .int fl] (fun U => va_P (dC, dI) vwCl [(h0, .inr (1, [.ref q0, .ref q1, .ref q2, .int (nI n), .int (nI k), .int d])), (q0, .inl (cA, 3000, .inl T)), (q1, .inl (cB, 40, .inl G)), (q2, .inl (cC, 20, .inl E))] U.heap ∧ va_K (dC, dI) vwCl [(cA, .int), (cB, .int), (cC, .int)] U)) (vp_Si (fun r : Int32 => r = sp_find x fl n T0 k G0)) 0 0 (fun _ => False) := by
  refine Met.ofW (cc := cX1_find) (maxL := 4) (ret := (some .int)) (by decide) rfl ?_
  intro p e s m args below meth c s₁ B hml hv
  obtain ⟨rfl, hP, hK⟩ := hv
  have hx := B.exec
  have hb := B.bytes
  have hr := B.returns
  have hts := atoms_spec (ws := wsX1_find) B.pre
  have hown : s.vm.findClass RX1 = some m.cls := findClass_of_methodNamed B.named
  have hlocks := B.notSynchronized
  have hP : va_P (dC, dI) vwCl [(h0, .inr (1, [.ref q0, .ref q1, .ref q2, .int (nI n), .int (nI k), .int d])), (q0, .inl (cA, 3000, .inl T)), (q1, .inl (cB, 40, .inl G)), (q2, .inl (cC, 20, .inl E))] s.heap := hP
  have hinX1 : ∀ w ∈ u_ws RX1 TX1 6, w ∈ wsX1_find := fun w h => List.mem_cons_of_mem _ (inX1 w h)
  have hl := lv_entry ([.ref h0, .int x, .int fl]) (n := 4) (Nat.le_of_ble_eq_true rfl)
  rw [lg_entry_eq]
  generalize (lg_sl ([.ref h0, .int x, .int fl]) ++ List.replicate (4 - (lg_sl ([.ref h0, .int x, .int fl])).length) Slot.unset).toArray = ls at hl ⊢
  have hl : lv_has ls 4 [(0, .ref h0), (1, .int x), (2, .int fl)] := hl
  refine tl_q (fun Q hQ => ?_)
  refine lv_iload_n hx hb dX1_find_0 rfl (lv_at hl 2 rfl) ?_
  refine lv_if_eq (tgt := 43) hx hb dX1_find_1 rfl (fun h1 => ?_) (fun h1 => ?_)
  · skip
    have h1 := (tl_eq (show fl.toInt = fl.toInt from rfl) (show (0 : Int32).toInt = (0 : Int) from Int32.toInt_zero)).mp h1
    refine lv_iload_n hx hb dX1_find_43 rfl (lv_at hl 1 rfl) ?_
    refine lv_if_ge (tgt := 51) hx hb dX1_find_44 rfl (fun h44 => ?_) (fun h44 => ?_)
    · skip
      have h44 := (tl_le (show (0 : Int32).toInt = (0 : Int) from Int32.toInt_zero) (show x.toInt = x.toInt from rfl)).mp h44
      obtain ⟨b, ltb, rfl⟩ := tl_of (x := x) (by omega)
      have eb : (nI b).toInt = ((b : Nat) : Int) := nI_toInt ltb
      refine lv_iload_n hx hb dX1_find_51 rfl (lv_at hl 1 rfl) ?_
      refine lv_aload_n hx hb dX1_find_52 rfl (lv_at hl 0 rfl) ?_
      refine va_get (D := (dC, dI)) (ci := 1) (v := .int (nI n)) (C := RX1) (T := TX1) (N := 6) hx hb hts hinX1 hown hK hP 0 rfl rfl 3 (by decide) (hts _ (List.mem_cons_of_mem _ k248)) (fun _ h9 => h9) rfl dX1_find_53 ?_
      refine lv_icmp_le (tgt := 66) hx hb dX1_find_56 rfl (fun h56 => ?_) (fun h56 => ?_)
      · skip
        have h56 := (tl_le (show (nI b).toInt = ((b : Nat) : Int) from (nI_toInt (by omega))) (show (nI n).toInt = ((n : Nat) : Int) from (nI_toInt (by omega)))).mp h56
        refine lv_iload_n hx hb dX1_find_66 rfl (lv_at hl 1 rfl) ?_
        refine lv_istore_n (lv' := [(3, .int (nI b)), (0, .ref h0), (1, .int (nI b)), (2, .int fl)]) hx hb dX1_find_67 rfl hl (by decide) rfl (fun ls hl => ?_)
        have LP68 : ∀ (fu : Nat) (a : Nat) (ls : Array Slot), n + 1 - a < fu → a ≤ n + 1 → tl_fw n T0 k G0 (n + 1 - min (nI b).toNatClampNeg n) (min (nI b).toNatClampNeg n) = tl_fw n T0 k G0 (n + 1 - a) a → lv_has ls 4 [(0, .ref h0), (3, .int (nI a))] → W p l e (headSpec wsX1_find ({ frames := 1, cells := 0, slots := 0, locals := 22 } : Room)).room s m ([.ref h0, .int (nI b), .int fl] : List Value).toArray below meth c s.heap [] 0 0 Q (F0 m 68 ls []) := by
          intro fu
          induction fu with
          | zero => intro a ls hfu; exact absurd hfu (Nat.not_lt_zero _)
          | succ fu ih =>
            intro a ls hfu ha hf hl
            refine lv_iload_n hx hb dX1_find_68 rfl (lv_at hl 1 rfl) ?_
            refine lv_aload_n hx hb dX1_find_69 rfl (lv_at hl 0 rfl) ?_
            refine va_get (D := (dC, dI)) (ci := 1) (v := .int (nI n)) (C := RX1) (T := TX1) (N := 6) hx hb hts hinX1 hown hK hP 0 rfl rfl 3 (by decide) (hts _ (List.mem_cons_of_mem _ k248)) (fun _ h9 => h9) rfl dX1_find_70 ?_
            refine lv_icmp_gt (tgt := 92) hx hb dX1_find_73 rfl (fun h73 => ?_) (fun h73 => ?_)
            · skip
              have h73 := (tl_lt (show (nI n).toInt = ((n : Nat) : Int) from (nI_toInt (by omega))) (show (nI a).toInt = ((a : Nat) : Int) from (nI_toInt (by omega)))).mp h73
              refine lv_iconst (v := (-1 : Int32)) hx hb dX1_find_92 (by decide) ?_
              subst hQ
              exact W.iret (v := (-1 : Int32)) hx hb hr (fun t ht hW => ⟨(-1 : Int32), rfl, (by unfold sp_find; rw [if_pos h1, hf, show n + 1 - a = 0 by omega]; rfl), ht⟩) (fun q h => absurd h List.not_mem_nil) dX1_find_93
            · skip
              have h73 := (not_congr (tl_lt (show (nI n).toInt = ((n : Nat) : Int) from (nI_toInt (by omega))) (show (nI a).toInt = ((a : Nat) : Int) from (nI_toInt (by omega))))).mp h73
              refine lv_aload_n hx hb dX1_find_76 rfl (lv_at hl 0 rfl) ?_
              refine lv_iload_n hx hb dX1_find_77 rfl (lv_at hl 1 rfl) ?_
              have ea78_0 : (nI a).toInt = ((a : Nat) : Int) := (nI_toInt (by omega))
              refine vp_callSi ((va_runV (As := [.int (nI a)]) (rest := []) ⟨hx, hb, hml, hown, hts⟩ (c_M_stands l dC dI h0 q0 q1 q2 n k cA cB cC T G T0 G0 hT hG (by omega) hk E d a (by omega)) (cwV 1 hts (gV_ (fun w h => List.mem_cons_of_mem _ h) k359 k361 k19 k22 k362) rfl rfl rfl (by decide +kernel) ⟨Nat.le_of_ble_eq_true rfl, Nat.le_of_ble_eq_true rfl⟩) ⟨fun a U g mk q => by obtain ⟨q0, qP, qK⟩ := q; exact ⟨q0, qP, va_K.moved (u := U) (U := U.calling g mk a) (Vm.Alike.refl U.vm) qK⟩, va_recv hK hP (ci := 1) (q0 := 0) rfl rfl, fun U hU hW => ⟨rfl, by rw [hU]; exact hP, va_K.moved hW.alike hK⟩⟩ rfl rfl hl.1 rfl (lv_room (Nat.le_of_ble_eq_true rfl)) dX1_find_78 ⟨Nat.le_of_ble_eq_true rfl, Nat.le_of_ble_eq_true rfl⟩).run) (fun r78 w78 => ?_)
              try dsimp only at w78
              refine lv_if_eq (tgt := 86) hx hb dX1_find_81 rfl (fun h81 => ?_) (fun h81 => ?_)
              · skip
                have h81 := (tl_b0 w78).mp h81
                refine lv_iinc (lv' := [(3, .int (nI (a + 1))), (0, .ref h0)]) (k := 1) (v := nI (a + 1)) hx hb dX1_find_86 hl rfl (tl_inc1 _) (by decide) rfl (fun ls hl => ?_)
                refine lv_goto (tgt := 68) hx hb dX1_find_89 rfl ?_
                exact ih (a + 1) ls (by omega) (by omega) (by rw [hf, tl_fw_step (by omega), if_neg h81]) (lv_sub hl [1, 0] rfl)
              · skip
                have h81 := (tl_b1 w78).mp h81
                refine lv_iload_n hx hb dX1_find_84 rfl (lv_at hl 1 rfl) ?_
                subst hQ
                exact W.iret (v := nI a) hx hb hr (fun t ht hW => ⟨nI a, rfl, (by unfold sp_find; rw [if_pos h1, hf, tl_fw_step (by omega), if_pos h81]), ht⟩) (fun q h => absurd h List.not_mem_nil) dX1_find_85
        exact LP68 _ b ls (Nat.lt_succ_self _) (by omega) (tl_fw_m (by rw [nI_clamp ltb]; omega)) (lv_sub hl [1, 0] rfl)
      · skip
        have h56 := (not_congr (tl_le (show (nI b).toInt = ((b : Nat) : Int) from (nI_toInt (by omega))) (show (nI n).toInt = ((n : Nat) : Int) from (nI_toInt (by omega))))).mp h56
        refine lv_aload_n hx hb dX1_find_59 rfl (lv_at hl 0 rfl) ?_
        refine va_get (D := (dC, dI)) (ci := 1) (v := .int (nI n)) (C := RX1) (T := TX1) (N := 6) hx hb hts hinX1 hown hK hP 0 rfl rfl 3 (by decide) (hts _ (List.mem_cons_of_mem _ k248)) (fun _ h9 => h9) rfl dX1_find_60 ?_
        refine lv_goto (tgt := 67) hx hb dX1_find_63 rfl ?_
        refine lv_istore_n (lv' := [(3, .int (nI n)), (0, .ref h0), (1, .int (nI b)), (2, .int fl)]) hx hb dX1_find_67 rfl hl (by decide) rfl (fun ls hl => ?_)
        have LP68 : ∀ (fu : Nat) (a : Nat) (ls : Array Slot), n + 1 - a < fu → a ≤ n + 1 → tl_fw n T0 k G0 (n + 1 - min (nI b).toNatClampNeg n) (min (nI b).toNatClampNeg n) = tl_fw n T0 k G0 (n + 1 - a) a → lv_has ls 4 [(0, .ref h0), (3, .int (nI a))] → W p l e (headSpec wsX1_find ({ frames := 1, cells := 0, slots := 0, locals := 22 } : Room)).room s m ([.ref h0, .int (nI b), .int fl] : List Value).toArray below meth c s.heap [] 0 0 Q (F0 m 68 ls []) := by
          intro fu
          induction fu with
          | zero => intro a ls hfu; exact absurd hfu (Nat.not_lt_zero _)
          | succ fu ih =>
            intro a ls hfu ha hf hl
            refine lv_iload_n hx hb dX1_find_68 rfl (lv_at hl 1 rfl) ?_
            refine lv_aload_n hx hb dX1_find_69 rfl (lv_at hl 0 rfl) ?_
            refine va_get (D := (dC, dI)) (ci := 1) (v := .int (nI n)) (C := RX1) (T := TX1) (N := 6) hx hb hts hinX1 hown hK hP 0 rfl rfl 3 (by decide) (hts _ (List.mem_cons_of_mem _ k248)) (fun _ h9 => h9) rfl dX1_find_70 ?_
            refine lv_icmp_gt (tgt := 92) hx hb dX1_find_73 rfl (fun h73 => ?_) (fun h73 => ?_)
            · skip
              have h73 := (tl_lt (show (nI n).toInt = ((n : Nat) : Int) from (nI_toInt (by omega))) (show (nI a).toInt = ((a : Nat) : Int) from (nI_toInt (by omega)))).mp h73
              refine lv_iconst (v := (-1 : Int32)) hx hb dX1_find_92 (by decide) ?_
              subst hQ
              exact W.iret (v := (-1 : Int32)) hx hb hr (fun t ht hW => ⟨(-1 : Int32), rfl, (by unfold sp_find; rw [if_pos h1, hf, show n + 1 - a = 0 by omega]; rfl), ht⟩) (fun q h => absurd h List.not_mem_nil) dX1_find_93
            · skip
              have h73 := (not_congr (tl_lt (show (nI n).toInt = ((n : Nat) : Int) from (nI_toInt (by omega))) (show (nI a).toInt = ((a : Nat) : Int) from (nI_toInt (by omega))))).mp h73
              refine lv_aload_n hx hb dX1_find_76 rfl (lv_at hl 0 rfl) ?_
              refine lv_iload_n hx hb dX1_find_77 rfl (lv_at hl 1 rfl) ?_
              have ea78_0 : (nI a).toInt = ((a : Nat) : Int) := (nI_toInt (by omega))
              refine vp_callSi ((va_runV (As := [.int (nI a)]) (rest := []) ⟨hx, hb, hml, hown, hts⟩ (c_M_stands l dC dI h0 q0 q1 q2 n k cA cB cC T G T0 G0 hT hG (by omega) hk E d a (by omega)) (cwV 1 hts (gV_ (fun w h => List.mem_cons_of_mem _ h) k359 k361 k19 k22 k362) rfl rfl rfl (by decide +kernel) ⟨Nat.le_of_ble_eq_true rfl, Nat.le_of_ble_eq_true rfl⟩) ⟨fun a U g mk q => by obtain ⟨q0, qP, qK⟩ := q; exact ⟨q0, qP, va_K.moved (u := U) (U := U.calling g mk a) (Vm.Alike.refl U.vm) qK⟩, va_recv hK hP (ci := 1) (q0 := 0) rfl rfl, fun U hU hW => ⟨rfl, by rw [hU]; exact hP, va_K.moved hW.alike hK⟩⟩ rfl rfl hl.1 rfl (lv_room (Nat.le_of_ble_eq_true rfl)) dX1_find_78 ⟨Nat.le_of_ble_eq_true rfl, Nat.le_of_ble_eq_true rfl⟩).run) (fun r78 w78 => ?_)
              try dsimp only at w78
              refine lv_if_eq (tgt := 86) hx hb dX1_find_81 rfl (fun h81 => ?_) (fun h81 => ?_)
              · skip
                have h81 := (tl_b0 w78).mp h81
                refine lv_iinc (lv' := [(3, .int (nI (a + 1))), (0, .ref h0)]) (k := 1) (v := nI (a + 1)) hx hb dX1_find_86 hl rfl (tl_inc1 _) (by decide) rfl (fun ls hl => ?_)
                refine lv_goto (tgt := 68) hx hb dX1_find_89 rfl ?_
                exact ih (a + 1) ls (by omega) (by omega) (by rw [hf, tl_fw_step (by omega), if_neg h81]) (lv_sub hl [1, 0] rfl)
              · skip
                have h81 := (tl_b1 w78).mp h81
                refine lv_iload_n hx hb dX1_find_84 rfl (lv_at hl 1 rfl) ?_
                subst hQ
                exact W.iret (v := nI a) hx hb hr (fun t ht hW => ⟨nI a, rfl, (by unfold sp_find; rw [if_pos h1, hf, tl_fw_step (by omega), if_pos h81]), ht⟩) (fun q h => absurd h List.not_mem_nil) dX1_find_85
        exact LP68 _ n ls (Nat.lt_succ_self _) (by omega) (tl_fw_m (by rw [nI_clamp ltb]; omega)) (lv_sub hl [1, 0] rfl)
    · skip
      have h44 := (not_congr (tl_le (show (0 : Int32).toInt = (0 : Int) from Int32.toInt_zero) (show x.toInt = x.toInt from rfl))).mp h44
      refine lv_iconst (v := nI 0) hx hb dX1_find_47 (by decide) ?_
      refine lv_goto (tgt := 67) hx hb dX1_find_48 rfl ?_
      refine lv_istore_n (lv' := [(3, .int (nI 0)), (0, .ref h0), (1, .int x), (2, .int fl)]) hx hb dX1_find_67 rfl hl (by decide) rfl (fun ls hl => ?_)
      have LP68 : ∀ (fu : Nat) (a : Nat) (ls : Array Slot), n + 1 - a < fu → a ≤ n + 1 → tl_fw n T0 k G0 (n + 1 - min x.toNatClampNeg n) (min x.toNatClampNeg n) = tl_fw n T0 k G0 (n + 1 - a) a → lv_has ls 4 [(0, .ref h0), (3, .int (nI a))] → W p l e (headSpec wsX1_find ({ frames := 1, cells := 0, slots := 0, locals := 22 } : Room)).room s m ([.ref h0, .int x, .int fl] : List Value).toArray below meth c s.heap [] 0 0 Q (F0 m 68 ls []) := by
        intro fu
        induction fu with
        | zero => intro a ls hfu; exact absurd hfu (Nat.not_lt_zero _)
        | succ fu ih =>
          intro a ls hfu ha hf hl
          refine lv_iload_n hx hb dX1_find_68 rfl (lv_at hl 1 rfl) ?_
          refine lv_aload_n hx hb dX1_find_69 rfl (lv_at hl 0 rfl) ?_
          refine va_get (D := (dC, dI)) (ci := 1) (v := .int (nI n)) (C := RX1) (T := TX1) (N := 6) hx hb hts hinX1 hown hK hP 0 rfl rfl 3 (by decide) (hts _ (List.mem_cons_of_mem _ k248)) (fun _ h9 => h9) rfl dX1_find_70 ?_
          refine lv_icmp_gt (tgt := 92) hx hb dX1_find_73 rfl (fun h73 => ?_) (fun h73 => ?_)
          · skip
            have h73 := (tl_lt (show (nI n).toInt = ((n : Nat) : Int) from (nI_toInt (by omega))) (show (nI a).toInt = ((a : Nat) : Int) from (nI_toInt (by omega)))).mp h73
            refine lv_iconst (v := (-1 : Int32)) hx hb dX1_find_92 (by decide) ?_
            subst hQ
            exact W.iret (v := (-1 : Int32)) hx hb hr (fun t ht hW => ⟨(-1 : Int32), rfl, (by unfold sp_find; rw [if_pos h1, hf, show n + 1 - a = 0 by omega]; rfl), ht⟩) (fun q h => absurd h List.not_mem_nil) dX1_find_93
          · skip
            have h73 := (not_congr (tl_lt (show (nI n).toInt = ((n : Nat) : Int) from (nI_toInt (by omega))) (show (nI a).toInt = ((a : Nat) : Int) from (nI_toInt (by omega))))).mp h73
            refine lv_aload_n hx hb dX1_find_76 rfl (lv_at hl 0 rfl) ?_
            refine lv_iload_n hx hb dX1_find_77 rfl (lv_at hl 1 rfl) ?_
            have ea78_0 : (nI a).toInt = ((a : Nat) : Int) := (nI_toInt (by omega))
            refine vp_callSi ((va_runV (As := [.int (nI a)]) (rest := []) ⟨hx, hb, hml, hown, hts⟩ (c_M_stands l dC dI h0 q0 q1 q2 n k cA cB cC T G T0 G0 hT hG (by omega) hk E d a (by omega)) (cwV 1 hts (gV_ (fun w h => List.mem_cons_of_mem _ h) k359 k361 k19 k22 k362) rfl rfl rfl (by decide +kernel) ⟨Nat.le_of_ble_eq_true rfl, Nat.le_of_ble_eq_true rfl⟩) ⟨fun a U g mk q => by obtain ⟨q0, qP, qK⟩ := q; exact ⟨q0, qP, va_K.moved (u := U) (U := U.calling g mk a) (Vm.Alike.refl U.vm) qK⟩, va_recv hK hP (ci := 1) (q0 := 0) rfl rfl, fun U hU hW => ⟨rfl, by rw [hU]; exact hP, va_K.moved hW.alike hK⟩⟩ rfl rfl hl.1 rfl (lv_room (Nat.le_of_ble_eq_true rfl)) dX1_find_78 ⟨Nat.le_of_ble_eq_true rfl, Nat.le_of_ble_eq_true rfl⟩).run) (fun r78 w78 => ?_)
            try dsimp only at w78
            refine lv_if_eq (tgt := 86) hx hb dX1_find_81 rfl (fun h81 => ?_) (fun h81 => ?_)
            · skip
              have h81 := (tl_b0 w78).mp h81
              refine lv_iinc (lv' := [(3, .int (nI (a + 1))), (0, .ref h0)]) (k := 1) (v := nI (a + 1)) hx hb dX1_find_86 hl rfl (tl_inc1 _) (by decide) rfl (fun ls hl => ?_)
              refine lv_goto (tgt := 68) hx hb dX1_find_89 rfl ?_
              exact ih (a + 1) ls (by omega) (by omega) (by rw [hf, tl_fw_step (by omega), if_neg h81]) (lv_sub hl [1, 0] rfl)
            · skip
              have h81 := (tl_b1 w78).mp h81
              refine lv_iload_n hx hb dX1_find_84 rfl (lv_at hl 1 rfl) ?_
              subst hQ
              exact W.iret (v := nI a) hx hb hr (fun t ht hW => ⟨nI a, rfl, (by unfold sp_find; rw [if_pos h1, hf, tl_fw_step (by omega), if_pos h81]), ht⟩) (fun q h => absurd h List.not_mem_nil) dX1_find_85
      exact LP68 _ 0 ls (Nat.lt_succ_self _) (by omega) (tl_fw_m (by have hx : x.toNatClampNeg = x.toInt.toNat := rfl; omega)) (lv_sub hl [1, 0] rfl)
  · skip
    have h1 := (not_congr (tl_eq (show fl.toInt = fl.toInt from rfl) (show (0 : Int32).toInt = (0 : Int) from Int32.toInt_zero))).mp h1
    refine lv_iload_n hx hb dX1_find_4 rfl (lv_at hl 1 rfl) ?_
    refine lv_aload_n hx hb dX1_find_5 rfl (lv_at hl 0 rfl) ?_
    refine va_get (D := (dC, dI)) (ci := 1) (v := .int (nI n)) (C := RX1) (T := TX1) (N := 6) hx hb hts hinX1 hown hK hP 0 rfl rfl 3 (by decide) (hts _ (List.mem_cons_of_mem _ k248)) (fun _ h9 => h9) rfl dX1_find_6 ?_
    refine lv_icmp_le (tgt := 19) hx hb dX1_find_9 rfl (fun h9 => ?_) (fun h9 => ?_)
    · skip
      have h9 := (tl_le (show x.toInt = x.toInt from rfl) (show (nI n).toInt = ((n : Nat) : Int) from (nI_toInt (by omega)))).mp h9
      refine lv_iload_n hx hb dX1_find_19 rfl (lv_at hl 1 rfl) ?_
      refine lv_istore_n (lv' := [(3, .int x), (0, .ref h0), (1, .int x), (2, .int fl)]) hx hb dX1_find_20 rfl hl (by decide) rfl (fun ls hl => ?_)
      have LP21 : ∀ (fu : Nat) (z : Int32) (ls : Array Slot), (z.toInt + 1).toNat < fu → z.toInt ≤ n → (if x.toInt < 0 then (-1 : Int32) else tl_bw n T0 k G0 (min x.toNatClampNeg n + 1)) = tl_bw n T0 k G0 (z.toInt + 1).toNat → lv_has ls 4 [(0, .ref h0), (3, .int z)] → W p l e (headSpec wsX1_find ({ frames := 1, cells := 0, slots := 0, locals := 22 } : Room)).room s m ([.ref h0, .int x, .int fl] : List Value).toArray below meth c s.heap [] 0 0 Q (F0 m 21 ls []) := by
        intro fu
        induction fu with
        | zero => intro z ls hfu; exact absurd hfu (Nat.not_lt_zero _)
        | succ fu ih =>
          intro z ls hfu hz hf hl
          refine lv_iload_n hx hb dX1_find_21 rfl (lv_at hl 1 rfl) ?_
          refine lv_if_lt (tgt := 41) hx hb dX1_find_22 rfl (fun h22 => ?_) (fun h22 => ?_)
          · skip
            have h22 := (tl_lt (show z.toInt = z.toInt from rfl) (show (0 : Int32).toInt = (0 : Int) from Int32.toInt_zero)).mp h22
            refine lv_iconst (v := (-1 : Int32)) hx hb dX1_find_41 (by decide) ?_
            subst hQ
            exact W.iret (v := (-1 : Int32)) hx hb hr (fun t ht hW => ⟨(-1 : Int32), rfl, (by unfold sp_find; rw [if_neg h1, hf, show (z.toInt + 1).toNat = 0 by omega]; rfl), ht⟩) (fun q h => absurd h List.not_mem_nil) dX1_find_42
          · skip
            have h22 := (not_congr (tl_lt (show z.toInt = z.toInt from rfl) (show (0 : Int32).toInt = (0 : Int) from Int32.toInt_zero))).mp h22
            obtain ⟨a, lta, rfl⟩ := tl_of (x := z) (by omega)
            have ea : (nI a).toInt = ((a : Nat) : Int) := nI_toInt lta
            refine lv_aload_n hx hb dX1_find_25 rfl (lv_at hl 0 rfl) ?_
            refine lv_iload_n hx hb dX1_find_26 rfl (lv_at hl 1 rfl) ?_
            have ea27_0 : (nI a).toInt = ((a : Nat) : Int) := (nI_toInt (by omega))
            refine vp_callSi ((va_runV (As := [.int (nI a)]) (rest := []) ⟨hx, hb, hml, hown, hts⟩ (c_M_stands l dC dI h0 q0 q1 q2 n k cA cB cC T G T0 G0 hT hG (by omega) hk E d a (by omega)) (cwV 1 hts (gV_ (fun w h => List.mem_cons_of_mem _ h) k359 k361 k19 k22 k362) rfl rfl rfl (by decide +kernel) ⟨Nat.le_of_ble_eq_true rfl, Nat.le_of_ble_eq_true rfl⟩) ⟨fun a U g mk q => by obtain ⟨q0, qP, qK⟩ := q; exact ⟨q0, qP, va_K.moved (u := U) (U := U.calling g mk a) (Vm.Alike.refl U.vm) qK⟩, va_recv hK hP (ci := 1) (q0 := 0) rfl rfl, fun U hU hW => ⟨rfl, by rw [hU]; exact hP, va_K.moved hW.alike hK⟩⟩ rfl rfl hl.1 rfl (lv_room (Nat.le_of_ble_eq_true rfl)) dX1_find_27 ⟨Nat.le_of_ble_eq_true rfl, Nat.le_of_ble_eq_true rfl⟩).run) (fun r27 w27 => ?_)
            try dsimp only at w27
            refine lv_if_eq (tgt := 35) hx hb dX1_find_30 rfl (fun h30 => ?_) (fun h30 => ?_)
            · skip
              have h30 := (tl_b0 w27).mp h30
              refine lv_iinc (lv' := [(3, .int (nI a - nI 1)), (0, .ref h0)]) (k := 1) (v := nI a - nI 1) hx hb dX1_find_35 hl rfl (tl_dec a) (by decide) rfl (fun ls hl => ?_)
              refine lv_goto (tgt := 21) hx hb dX1_find_38 rfl ?_
              exact ih (nI a - nI 1) ls (by rw [tl_predv (by omega)]; omega) (by rw [tl_predv (by omega)]; omega) (by rw [hf, ea, tl_predv (by omega), show ((a : Int) + 1).toNat = a + 1 by omega, show ((a : Int) - 1 + 1).toNat = a by omega, tl_bw, if_neg h30]) (lv_sub hl [1, 0] rfl)
            · skip
              have h30 := (tl_b1 w27).mp h30
              refine lv_iload_n hx hb dX1_find_33 rfl (lv_at hl 1 rfl) ?_
              subst hQ
              exact W.iret (v := nI a) hx hb hr (fun t ht hW => ⟨nI a, rfl, (by unfold sp_find; rw [if_neg h1, hf, ea, show ((a : Int) + 1).toNat = a + 1 by omega, tl_bw, if_pos h30]), ht⟩) (fun q h => absurd h List.not_mem_nil) dX1_find_34
      exact LP21 _ x ls (Nat.lt_succ_self _) (by omega) (tl_bw_m (Or.inl ⟨rfl, by omega⟩)) (lv_sub hl [1, 0] rfl)
    · skip
      have h9 := (not_congr (tl_le (show x.toInt = x.toInt from rfl) (show (nI n).toInt = ((n : Nat) : Int) from (nI_toInt (by omega))))).mp h9
      refine lv_aload_n hx hb dX1_find_12 rfl (lv_at hl 0 rfl) ?_
      refine va_get (D := (dC, dI)) (ci := 1) (v := .int (nI n)) (C := RX1) (T := TX1) (N := 6) hx hb hts hinX1 hown hK hP 0 rfl rfl 3 (by decide) (hts _ (List.mem_cons_of_mem _ k248)) (fun _ h9 => h9) rfl dX1_find_13 ?_
      refine lv_goto (tgt := 20) hx hb dX1_find_16 rfl ?_
      refine lv_istore_n (lv' := [(3, .int (nI n)), (0, .ref h0), (1, .int x), (2, .int fl)]) hx hb dX1_find_20 rfl hl (by decide) rfl (fun ls hl => ?_)
      have LP21 : ∀ (fu : Nat) (z : Int32) (ls : Array Slot), (z.toInt + 1).toNat < fu → z.toInt ≤ n → (if x.toInt < 0 then (-1 : Int32) else tl_bw n T0 k G0 (min x.toNatClampNeg n + 1)) = tl_bw n T0 k G0 (z.toInt + 1).toNat → lv_has ls 4 [(0, .ref h0), (3, .int z)] → W p l e (headSpec wsX1_find ({ frames := 1, cells := 0, slots := 0, locals := 22 } : Room)).room s m ([.ref h0, .int x, .int fl] : List Value).toArray below meth c s.heap [] 0 0 Q (F0 m 21 ls []) := by
        intro fu
        induction fu with
        | zero => intro z ls hfu; exact absurd hfu (Nat.not_lt_zero _)
        | succ fu ih =>
          intro z ls hfu hz hf hl
          refine lv_iload_n hx hb dX1_find_21 rfl (lv_at hl 1 rfl) ?_
          refine lv_if_lt (tgt := 41) hx hb dX1_find_22 rfl (fun h22 => ?_) (fun h22 => ?_)
          · skip
            have h22 := (tl_lt (show z.toInt = z.toInt from rfl) (show (0 : Int32).toInt = (0 : Int) from Int32.toInt_zero)).mp h22
            refine lv_iconst (v := (-1 : Int32)) hx hb dX1_find_41 (by decide) ?_
            subst hQ
            exact W.iret (v := (-1 : Int32)) hx hb hr (fun t ht hW => ⟨(-1 : Int32), rfl, (by unfold sp_find; rw [if_neg h1, hf, show (z.toInt + 1).toNat = 0 by omega]; rfl), ht⟩) (fun q h => absurd h List.not_mem_nil) dX1_find_42
          · skip
            have h22 := (not_congr (tl_lt (show z.toInt = z.toInt from rfl) (show (0 : Int32).toInt = (0 : Int) from Int32.toInt_zero))).mp h22
            obtain ⟨a, lta, rfl⟩ := tl_of (x := z) (by omega)
            have ea : (nI a).toInt = ((a : Nat) : Int) := nI_toInt lta
            refine lv_aload_n hx hb dX1_find_25 rfl (lv_at hl 0 rfl) ?_
            refine lv_iload_n hx hb dX1_find_26 rfl (lv_at hl 1 rfl) ?_
            have ea27_0 : (nI a).toInt = ((a : Nat) : Int) := (nI_toInt (by omega))
            refine vp_callSi ((va_runV (As := [.int (nI a)]) (rest := []) ⟨hx, hb, hml, hown, hts⟩ (c_M_stands l dC dI h0 q0 q1 q2 n k cA cB cC T G T0 G0 hT hG (by omega) hk E d a (by omega)) (cwV 1 hts (gV_ (fun w h => List.mem_cons_of_mem _ h) k359 k361 k19 k22 k362) rfl rfl rfl (by decide +kernel) ⟨Nat.le_of_ble_eq_true rfl, Nat.le_of_ble_eq_true rfl⟩) ⟨fun a U g mk q => by obtain ⟨q0, qP, qK⟩ := q; exact ⟨q0, qP, va_K.moved (u := U) (U := U.calling g mk a) (Vm.Alike.refl U.vm) qK⟩, va_recv hK hP (ci := 1) (q0 := 0) rfl rfl, fun U hU hW => ⟨rfl, by rw [hU]; exact hP, va_K.moved hW.alike hK⟩⟩ rfl rfl hl.1 rfl (lv_room (Nat.le_of_ble_eq_true rfl)) dX1_find_27 ⟨Nat.le_of_ble_eq_true rfl, Nat.le_of_ble_eq_true rfl⟩).run) (fun r27 w27 => ?_)
            try dsimp only at w27
            refine lv_if_eq (tgt := 35) hx hb dX1_find_30 rfl (fun h30 => ?_) (fun h30 => ?_)
            · skip
              have h30 := (tl_b0 w27).mp h30
              refine lv_iinc (lv' := [(3, .int (nI a - nI 1)), (0, .ref h0)]) (k := 1) (v := nI a - nI 1) hx hb dX1_find_35 hl rfl (tl_dec a) (by decide) rfl (fun ls hl => ?_)
              refine lv_goto (tgt := 21) hx hb dX1_find_38 rfl ?_
              exact ih (nI a - nI 1) ls (by rw [tl_predv (by omega)]; omega) (by rw [tl_predv (by omega)]; omega) (by rw [hf, ea, tl_predv (by omega), show ((a : Int) + 1).toNat = a + 1 by omega, show ((a : Int) - 1 + 1).toNat = a by omega, tl_bw, if_neg h30]) (lv_sub hl [1, 0] rfl)
            · skip
              have h30 := (tl_b1 w27).mp h30
              refine lv_iload_n hx hb dX1_find_33 rfl (lv_at hl 1 rfl) ?_
              subst hQ
              exact W.iret (v := nI a) hx hb hr (fun t ht hW => ⟨nI a, rfl, (by unfold sp_find; rw [if_neg h1, hf, ea, show ((a : Int) + 1).toNat = a + 1 by omega, tl_bw, if_pos h30]), ht⟩) (fun q h => absurd h List.not_mem_nil) dX1_find_34
      exact LP21 _ (nI n) ls (Nat.lt_succ_self _) (by rw [nI_toInt (by omega)]; omega) (tl_bw_m (Or.inr ⟨nI_toInt (by omega), by omega⟩)) (lv_sub hl [1, 0] rfl)
set_option maxHeartbeats 4000000 in
set_option maxRecDepth 100000 in
theorem c_M_note (l : Launch) (dC : Nat → ClassId) (dI : Nat → Nat → Nat) (h0 q0 q1 q2 sz n k : Nat) (cA cB cC : ClassId) (T G T0 G0 : Nat → Int32) (hT : ∀ j, j < n → T j = T0 j) (hG : ∀ j, j < k → G j = G0 j) (hn : n ≤ 3000) (hk : k ≤ 40) (E : Nat → Int32) (d : Int32) (x : Int32) : Met l yX1_note wsX1_note ({ frames := 1, cells := 0, slots := 0, locals := 21 } : Room) (va_Pc [.ref h0, .int x] (fun U => U.heap.size = sz ∧ va_P (dC, dI) vwCl [(h0, .inr (1, [.ref q0, .ref q1, .ref q2, .int (nI n), .int (nI k), .int d])), (q0, .inl (cA, 3000, .inl T)), (q1, .inl (cB, 40, .inl G)), (q2, .inl (cC, 20, .inl E))] U.heap ∧ va_K (dC, dI) vwCl [(cA, .int), (cB, .int), (cC, .int)] U ∧ va_D (fun _ => True) [(h0, .inr (1, [.ref q0, .ref q1, .ref q2, .int (nI n), .int (nI k), .int d])), (q0, .inl (cA, 3000, .inl T)), (q1, .inl (cB, 40, .inl G)), (q2, .inl (cC, 20, .inl E))])) (va_Qi (fun (r : Int32) (u : tM) => r = (sp_note x n T0 k G0).1 ∧ tE u.1 (sp_note x n T0 k G0).2) (at_M dC dI (va_A [(h0, .inr (1, [.ref q0, .ref q1, .ref q2, .int (nI n), .int (nI k), .int d])), (q0, .inl (cA, 3000, .inl T)), (q1, .inl (cB, 40, .inl G)), (q2, .inl (cC, 20, .inl E))] sz) h0 q0 q1 q2 cA cB cC) (va_A [(h0, .inr (1, [.ref q0, .ref q1, .ref q2, .int (nI n), .int (nI k), .int d])), (q0, .inl (cA, 3000, .inl T)), (q1, .inl (cB, 40, .inl G)), (q2, .inl (cC, 20, .inl E))] sz)) 0 0 (va_A [(h0, .inr (1, [.ref q0, .ref q1, .ref q2, .int (nI n), .int (nI k), .int d])), (q0, .inl (cA, 3000, .inl T)), (q1, .inl (cB, 40, .inl G)), (q2, .inl (cC, 20, .inl E))] sz) := by
  refine Met.ofW (cc := cX1_note) (maxL := 2) (ret := (some .int)) (by decide) rfl ?_
  intro p e s m args below meth c s₁ B hml hv
  obtain ⟨rfl, hsz, hP, hK, hD0⟩ := hv
  have hx := B.exec
  have hb := B.bytes
  have hr := B.returns
  have hts := atoms_spec (ws := wsX1_note) B.pre
  have hown : s.vm.findClass RX1 = some m.cls := findClass_of_methodNamed B.named
  have hlocks := B.notSynchronized
  subst hsz
  have hD := hD0.self (sz := s.heap.size)
  generalize hAe : va_A [(h0, .inr (1, [.ref q0, .ref q1, .ref q2, .int (nI n), .int (nI k), .int d])), (q0, .inl (cA, 3000, .inl T)), (q1, .inl (cB, 40, .inl G)), (q2, .inl (cC, 20, .inl E))] s.heap.size = A at hD ⊢
  have hA : ∀ q : Nat, s.heap.size ≤ q → A q := fun q h => by rw [← hAe]; exact Or.inr h
  have hS : va_S A s.heap s.heap [] := va_S.rf
  have hP : va_P (dC, dI) vwCl [(h0, .inr (1, [.ref q0, .ref q1, .ref q2, .int (nI n), .int (nI k), .int d])), (q0, .inl (cA, 3000, .inl T)), (q1, .inl (cB, 40, .inl G)), (q2, .inl (cC, 20, .inl E))] s.heap := hP
  have hinX1 : ∀ w ∈ u_ws RX1 TX1 6, w ∈ wsX1_note := fun w h => List.mem_cons_of_mem _ (inX1 w h)
  have hl := lv_entry ([.ref h0, .int x]) (n := 2) (Nat.le_of_ble_eq_true rfl)
  rw [lg_entry_eq]
  generalize (lg_sl ([.ref h0, .int x]) ++ List.replicate (2 - (lg_sl ([.ref h0, .int x])).length) Slot.unset).toArray = ls at hl ⊢
  have hl : lv_has ls 2 [(0, .ref h0), (1, .int x)] := hl
  refine tl_q (fun Q hQ => ?_)
  refine lv_iload_n hx hb dX1_note_0 rfl (lv_at hl 1 rfl) ?_
  refine lv_i2l hx hb dX1_note_1 rfl ?_
  have ea2_0 : x.toInt64.toInt = x.toInt := ((Int32.toInt_toInt64 _).trans rfl)
  refine vp_callSi ((va_runS (As := [.long x.toInt64]) (rest := []) ⟨hx, hb, hml, hown, hts⟩ (c_M_isSign l x.toInt64) (va_cwS 1 hts (gS_ (fun w h => List.mem_cons_of_mem _ h) k268 k269 k22 k270) rfl rfl rfl (by decide +kernel) ⟨Nat.le_of_ble_eq_true rfl, Nat.le_of_ble_eq_true rfl⟩) ⟨fun a U g mk q => q, fun U hU hW => ⟨rfl, trivial⟩⟩ rfl rfl hl.1 rfl (lv_room (Nat.le_of_ble_eq_true rfl)) dX1_note_2 ⟨Nat.le_of_ble_eq_true rfl, Nat.le_of_ble_eq_true rfl⟩).run) (fun r2 w2 => ?_)
  try dsimp only at w2
  refine lv_if_ne (tgt := 10) hx hb dX1_note_5 rfl (fun h5 => ?_) (fun h5 => ?_)
  · skip
    have h5 := (tl_b1 w2).mp h5
    refine lv_aload_n hx hb dX1_note_10 rfl (lv_at hl 0 rfl) ?_
    refine va_get (D := (dC, dI)) (ci := 1) (v := .int (nI k)) (C := RX1) (T := TX1) (N := 6) hx hb hts hinX1 hown hK hP 0 rfl rfl 4 (by decide) (hts _ (List.mem_cons_of_mem _ k249)) (fun _ h9 => h9) rfl dX1_note_11 ?_
    refine lv_bipush (v := nI 40) hx hb dX1_note_14 (by decide) ?_
    refine lv_icmp_ne (tgt := 22) hx hb dX1_note_16 rfl (fun h16 => ?_) (fun h16 => ?_)
    · skip
      have h16 := (not_congr (tl_eq (show (nI k).toInt = ((k : Nat) : Int) from (nI_toInt (by omega))) (show (nI 40).toInt = (40 : Int) from (by decide)))).mp h16
      refine lv_aload_n hx hb dX1_note_22 rfl (lv_at hl 0 rfl) ?_
      refine va_get (D := (dC, dI)) (ci := 1) (v := .ref q1) (C := RX1) (T := TX1) (N := 6) hx hb hts hinX1 hown hK hP 0 rfl rfl 1 (by decide) (hts _ (List.mem_cons_of_mem _ k246)) (fun _ h9 => h9) rfl dX1_note_23 ?_
      refine lv_aload_n hx hb dX1_note_26 rfl (lv_at hl 0 rfl) ?_
      refine va_get (D := (dC, dI)) (ci := 1) (v := .int (nI k)) (C := RX1) (T := TX1) (N := 6) hx hb hts hinX1 hown hK hP 0 rfl rfl 4 (by decide) (hts _ (List.mem_cons_of_mem _ k249)) (fun _ h9 => h9) rfl dX1_note_27 ?_
      refine lv_iload_n hx hb dX1_note_30 rfl (lv_at hl 1 rfl) ?_
      refine tl_iast hx hb hK hP hD hS 2 1 rfl rfl (by omega) (by decide) dX1_note_31 (fun H locs hP hD hS => ?_)
      have hP : va_P (dC, dI) vwCl [(h0, .inr (1, [.ref q0, .ref q1, .ref q2, .int (nI n), .int (nI k), .int d])), (q0, .inl (cA, 3000, .inl T)), (q1, .inl (cB, 40, .inl (upd G k x))), (q2, .inl (cC, 20, .inl E))] H := hP
      have hD : va_D A [(h0, .inr (1, [.ref q0, .ref q1, .ref q2, .int (nI n), .int (nI k), .int d])), (q0, .inl (cA, 3000, .inl T)), (q1, .inl (cB, 40, .inl (upd G k x))), (q2, .inl (cC, 20, .inl E))] := hD
      refine lv_aload_n hx hb dX1_note_32 rfl (lv_at hl 0 rfl) ?_
      refine lv_dup hx hb dX1_note_33 rfl ?_
      refine va_get (D := (dC, dI)) (ci := 1) (v := .int (nI k)) (C := RX1) (T := TX1) (N := 6) hx hb hts hinX1 hown hK hP 0 rfl rfl 4 (by decide) (hts _ (List.mem_cons_of_mem _ k249)) (fun _ h9 => h9) rfl dX1_note_34 ?_
      refine lv_iconst (v := nI 1) hx hb dX1_note_37 (by decide) ?_
      refine lv_iadd hx hb dX1_note_38 ?_
      refine tl_top (nI_add _ _) ?_
      refine lv_dup_x1 hx hb dX1_note_39 rfl rfl ?_
      refine va_put (D := (dC, dI)) (ci := 1) (v := .int (nI (k + 1))) (ty := .int) (C := RX1) (T := TX1) (N := 6) hx hb hts hinX1 tyX1 tyX1_ok nmX1 hown hK hP hD hS 0 rfl rfl 4 (by decide) (hts _ (List.mem_cons_of_mem _ k249)) (fun _ h9 => h9) rfl (by decide +kernel) rfl rfl (Nat.le_of_ble_eq_true rfl) dX1_note_40 (fun H locs hP hD hS => ?_)
      have hP : va_P (dC, dI) vwCl [(h0, .inr (1, [.ref q0, .ref q1, .ref q2, .int (nI n), .int (nI (k + 1)), .int d])), (q0, .inl (cA, 3000, .inl T)), (q1, .inl (cB, 40, .inl (upd G k x))), (q2, .inl (cC, 20, .inl E))] H := hP
      have hD : va_D A [(h0, .inr (1, [.ref q0, .ref q1, .ref q2, .int (nI n), .int (nI (k + 1)), .int d])), (q0, .inl (cA, 3000, .inl T)), (q1, .inl (cB, 40, .inl (upd G k x))), (q2, .inl (cC, 20, .inl E))] := hD
      subst hQ
      exact W.iret (v := nI (k + 1)) hx hb hr (fun t ht hW => ⟨⟨nI (k + 1), ((n, T, k + 1, upd G k x), E, d), rfl, (by rw [(show sp_note x n T0 k G0 = (nI (k + 1), (n, T0, k + 1, upd G0 k x)) from (by unfold sp_note; (repeat' split) <;> first | rfl | (exfalso; omega)))]; exact ⟨rfl, tE_mk hT (pu_up hG) hn (by omega)⟩), by rw [ht]; exact hP, va_K.moved hW.alike hK, hD⟩, hS.F ht⟩) hS.2.2 dX1_note_43
    · skip
      have h16 := (tl_eq (show (nI k).toInt = ((k : Nat) : Int) from (nI_toInt (by omega))) (show (nI 40).toInt = (40 : Int) from (by decide))).mp h16
      refine lv_bipush (v := (-3 : Int32)) hx hb dX1_note_19 (by decide) ?_
      subst hQ
      exact W.iret (v := (-3 : Int32)) hx hb hr (fun t ht hW => ⟨⟨(-3 : Int32), ((n, T, k, G), E, d), rfl, (by rw [(show sp_note x n T0 k G0 = ((-3 : Int32), (n, T0, k, G0)) from (by unfold sp_note; (repeat' split) <;> first | rfl | (exfalso; omega)))]; exact ⟨rfl, tE_mk hT hG hn hk⟩), by rw [ht]; exact hP, va_K.moved hW.alike hK, hD⟩, hS.F ht⟩) hS.2.2 dX1_note_21
  · skip
    have h5 := (tl_b0 w2).mp h5
    refine lv_iconst (v := (-1 : Int32)) hx hb dX1_note_8 (by decide) ?_
    subst hQ
    exact W.iret (v := (-1 : Int32)) hx hb hr (fun t ht hW => ⟨⟨(-1 : Int32), ((n, T, k, G), E, d), rfl, (by rw [(show sp_note x n T0 k G0 = ((-1 : Int32), (n, T0, k, G0)) from (by unfold sp_note; (repeat' split) <;> first | rfl | (exfalso; omega)))]; exact ⟨rfl, tE_mk hT hG hn hk⟩), by rw [ht]; exact hP, va_K.moved hW.alike hK, hD⟩, hS.F ht⟩) hS.2.2 dX1_note_9
set_option maxHeartbeats 4000000 in
set_option maxRecDepth 100000 in
theorem c_M_drop (l : Launch) (dC : Nat → ClassId) (dI : Nat → Nat → Nat) (h0 q0 q1 q2 sz n k : Nat) (cA cB cC : ClassId) (T G T0 G0 : Nat → Int32) (hT : ∀ j, j < n → T j = T0 j) (hG : ∀ j, j < k → G j = G0 j) (hn : n ≤ 3000) (hk : k ≤ 40) (E : Nat → Int32) (d : Int32)  : Met l yX1_drop wsX1_drop ({ frames := 0, cells := 0, slots := 0, locals := 0 } : Room) (va_Pc [.ref h0] (fun U => U.heap.size = sz ∧ va_P (dC, dI) vwCl [(h0, .inr (1, [.ref q0, .ref q1, .ref q2, .int (nI n), .int (nI k), .int d])), (q0, .inl (cA, 3000, .inl T)), (q1, .inl (cB, 40, .inl G)), (q2, .inl (cC, 20, .inl E))] U.heap ∧ va_K (dC, dI) vwCl [(cA, .int), (cB, .int), (cC, .int)] U ∧ va_D (fun _ => True) [(h0, .inr (1, [.ref q0, .ref q1, .ref q2, .int (nI n), .int (nI k), .int d])), (q0, .inl (cA, 3000, .inl T)), (q1, .inl (cB, 40, .inl G)), (q2, .inl (cC, 20, .inl E))])) (va_Qi (fun (r : Int32) (u : tM) => r = (sp_drop n T0 k G0).1 ∧ tE u.1 (sp_drop n T0 k G0).2) (at_M dC dI (va_A [(h0, .inr (1, [.ref q0, .ref q1, .ref q2, .int (nI n), .int (nI k), .int d])), (q0, .inl (cA, 3000, .inl T)), (q1, .inl (cB, 40, .inl G)), (q2, .inl (cC, 20, .inl E))] sz) h0 q0 q1 q2 cA cB cC) (va_A [(h0, .inr (1, [.ref q0, .ref q1, .ref q2, .int (nI n), .int (nI k), .int d])), (q0, .inl (cA, 3000, .inl T)), (q1, .inl (cB, 40, .inl G)), (q2, .inl (cC, 20, .inl E))] sz)) 0 0 (va_A [(h0, .inr (1, [.ref q0, .ref q1, .ref q2, .int (nI n), .int (nI k), .int d])), (q0, .inl (cA, 3000, .inl T)), (q1, .inl (cB, 40, .inl G)), (q2, .inl (cC, 20, .inl E))] sz) := by
  refine Met.ofW (cc := cX1_drop) (maxL := 2) (ret := (some .int)) (by decide) rfl ?_
  intro p e s m args below meth c s₁ B hml hv
  obtain ⟨rfl, hsz, hP, hK, hD0⟩ := hv
  have hx := B.exec
  have hb := B.bytes
  have hr := B.returns
  have hts := atoms_spec (ws := wsX1_drop) B.pre
  have hown : s.vm.findClass RX1 = some m.cls := findClass_of_methodNamed B.named
  have hlocks := B.notSynchronized
  subst hsz
  have hD := hD0.self (sz := s.heap.size)
  generalize hAe : va_A [(h0, .inr (1, [.ref q0, .ref q1, .ref q2, .int (nI n), .int (nI k), .int d])), (q0, .inl (cA, 3000, .inl T)), (q1, .inl (cB, 40, .inl G)), (q2, .inl (cC, 20, .inl E))] s.heap.size = A at hD ⊢
  have hA : ∀ q : Nat, s.heap.size ≤ q → A q := fun q h => by rw [← hAe]; exact Or.inr h
  have hS : va_S A s.heap s.heap [] := va_S.rf
  have hP : va_P (dC, dI) vwCl [(h0, .inr (1, [.ref q0, .ref q1, .ref q2, .int (nI n), .int (nI k), .int d])), (q0, .inl (cA, 3000, .inl T)), (q1, .inl (cB, 40, .inl G)), (q2, .inl (cC, 20, .inl E))] s.heap := hP
  have hinX1 : ∀ w ∈ u_ws RX1 TX1 6, w ∈ wsX1_drop := fun w h => List.mem_cons_of_mem _ (inX1 w h)
  have hl := lv_entry ([.ref h0]) (n := 2) (Nat.le_of_ble_eq_true rfl)
  rw [lg_entry_eq]
  generalize (lg_sl ([.ref h0]) ++ List.replicate (2 - (lg_sl ([.ref h0])).length) Slot.unset).toArray = ls at hl ⊢
  have hl : lv_has ls 2 [(0, .ref h0)] := hl
  refine tl_q (fun Q hQ => ?_)
  refine lv_aload_n hx hb dX1_drop_0 rfl (lv_at hl 0 rfl) ?_
  refine va_get (D := (dC, dI)) (ci := 1) (v := .int (nI k)) (C := RX1) (T := TX1) (N := 6) hx hb hts hinX1 hown hK hP 0 rfl rfl 4 (by decide) (hts _ (List.mem_cons_of_mem _ k249)) (fun _ h9 => h9) rfl dX1_drop_1 ?_
  refine lv_istore_n (lv' := [(1, .int (nI k)), (0, .ref h0)]) hx hb dX1_drop_4 rfl hl (by decide) rfl (fun ls hl => ?_)
  refine lv_aload_n hx hb dX1_drop_5 rfl (lv_at hl 1 rfl) ?_
  refine lv_iconst (v := nI 0) hx hb dX1_drop_6 (by decide) ?_
  refine va_put (D := (dC, dI)) (ci := 1) (v := .int (nI 0)) (ty := .int) (C := RX1) (T := TX1) (N := 6) hx hb hts hinX1 tyX1 tyX1_ok nmX1 hown hK hP hD hS 0 rfl rfl 4 (by decide) (hts _ (List.mem_cons_of_mem _ k249)) (fun _ h9 => h9) rfl (by decide +kernel) rfl rfl (Nat.le_of_ble_eq_true rfl) dX1_drop_7 (fun H locs hP hD hS => ?_)
  have hP : va_P (dC, dI) vwCl [(h0, .inr (1, [.ref q0, .ref q1, .ref q2, .int (nI n), .int (nI 0), .int d])), (q0, .inl (cA, 3000, .inl T)), (q1, .inl (cB, 40, .inl G)), (q2, .inl (cC, 20, .inl E))] H := hP
  have hD : va_D A [(h0, .inr (1, [.ref q0, .ref q1, .ref q2, .int (nI n), .int (nI 0), .int d])), (q0, .inl (cA, 3000, .inl T)), (q1, .inl (cB, 40, .inl G)), (q2, .inl (cC, 20, .inl E))] := hD
  refine lv_iload_n hx hb dX1_drop_10 rfl (lv_at hl 0 rfl) ?_
  subst hQ
  exact W.iret (v := nI k) hx hb hr (fun t ht hW => ⟨⟨nI k, ((n, T, 0, G), E, d), rfl, ⟨rfl, tE_mk hT (fun j hj => absurd hj (Nat.not_lt_zero j)) hn (by omega)⟩, by rw [ht]; exact hP, va_K.moved hW.alike hK, hD⟩, hS.F ht⟩) hS.2.2 dX1_drop_11
set_option maxHeartbeats 4000000 in
set_option maxRecDepth 100000 in
theorem c_M_lift (l : Launch) (dC : Nat → ClassId) (dI : Nat → Nat → Nat) (h0 q0 q1 q2 sz n k : Nat) (cA cB cC : ClassId) (T G T0 G0 : Nat → Int32) (hT : ∀ j, j < n → T j = T0 j) (hG : ∀ j, j < k → G j = G0 j) (hn : n ≤ 3000) (hk : k ≤ 40) (E : Nat → Int32) (d : Int32) (x y : Int32) : Met l yX1_lift wsX1_lift ({ frames := 0, cells := 0, slots := 0, locals := 0 } : Room) (va_Pc [.ref h0, .int x, .int y] (fun U => U.heap.size = sz ∧ va_P (dC, dI) vwCl [(h0, .inr (1, [.ref q0, .ref q1, .ref q2, .int (nI n), .int (nI k), .int d])), (q0, .inl (cA, 3000, .inl T)), (q1, .inl (cB, 40, .inl G)), (q2, .inl (cC, 20, .inl E))] U.heap ∧ va_K (dC, dI) vwCl [(cA, .int), (cB, .int), (cC, .int)] U ∧ va_D (fun _ => True) [(h0, .inr (1, [.ref q0, .ref q1, .ref q2, .int (nI n), .int (nI k), .int d])), (q0, .inl (cA, 3000, .inl T)), (q1, .inl (cB, 40, .inl G)), (q2, .inl (cC, 20, .inl E))])) (va_Qi (fun (r : Int32) (u : tM) => r = (sp_lift x y n T0 k G0).1 ∧ tE u.1 (sp_lift x y n T0 k G0).2) (at_M dC dI (va_A [(h0, .inr (1, [.ref q0, .ref q1, .ref q2, .int (nI n), .int (nI k), .int d])), (q0, .inl (cA, 3000, .inl T)), (q1, .inl (cB, 40, .inl G)), (q2, .inl (cC, 20, .inl E))] sz) h0 q0 q1 q2 cA cB cC) (va_A [(h0, .inr (1, [.ref q0, .ref q1, .ref q2, .int (nI n), .int (nI k), .int d])), (q0, .inl (cA, 3000, .inl T)), (q1, .inl (cB, 40, .inl G)), (q2, .inl (cC, 20, .inl E))] sz)) 0 0 (va_A [(h0, .inr (1, [.ref q0, .ref q1, .ref q2, .int (nI n), .int (nI k), .int d])), (q0, .inl (cA, 3000, .inl T)), (q1, .inl (cB, 40, .inl G)), (q2, .inl (cC, 20, .inl E))] sz) := by
  refine Met.ofW (cc := cX1_lift) (maxL := 4) (ret := (some .int)) (by decide) rfl ?_
  intro p e s m args below meth c s₁ B hml hv
  obtain ⟨rfl, hsz, hP, hK, hD0⟩ := hv
  have hx := B.exec
  have hb := B.bytes
  have hr := B.returns
  have hts := atoms_spec (ws := wsX1_lift) B.pre
  have hown : s.vm.findClass RX1 = some m.cls := findClass_of_methodNamed B.named
  have hlocks := B.notSynchronized
  subst hsz
  have hD := hD0.self (sz := s.heap.size)
  generalize hAe : va_A [(h0, .inr (1, [.ref q0, .ref q1, .ref q2, .int (nI n), .int (nI k), .int d])), (q0, .inl (cA, 3000, .inl T)), (q1, .inl (cB, 40, .inl G)), (q2, .inl (cC, 20, .inl E))] s.heap.size = A at hD ⊢
  have hA : ∀ q : Nat, s.heap.size ≤ q → A q := fun q h => by rw [← hAe]; exact Or.inr h
  have hS : va_S A s.heap s.heap [] := va_S.rf
  have hP : va_P (dC, dI) vwCl [(h0, .inr (1, [.ref q0, .ref q1, .ref q2, .int (nI n), .int (nI k), .int d])), (q0, .inl (cA, 3000, .inl T)), (q1, .inl (cB, 40, .inl G)), (q2, .inl (cC, 20, .inl E))] s.heap := hP
  have hinX1 : ∀ w ∈ u_ws RX1 TX1 6, w ∈ wsX1_lift := fun w h => List.mem_cons_of_mem _ (inX1 w h)
  have hl := lv_entry ([.ref h0, .int x, .int y]) (n := 4) (Nat.le_of_ble_eq_true rfl)
  rw [lg_entry_eq]
  generalize (lg_sl ([.ref h0, .int x, .int y]) ++ List.replicate (4 - (lg_sl ([.ref h0, .int x, .int y])).length) Slot.unset).toArray = ls at hl ⊢
  have hl : lv_has ls 4 [(0, .ref h0), (1, .int x), (2, .int y)] := hl
  refine tl_q (fun Q hQ => ?_)
  refine lv_iload_n hx hb dX1_lift_0 rfl (lv_at hl 1 rfl) ?_
  refine lv_if_lt (tgt := 17) hx hb dX1_lift_1 rfl (fun h1 => ?_) (fun h1 => ?_)
  · skip
    have h1 := (tl_lt (show x.toInt = x.toInt from rfl) (show (0 : Int32).toInt = (0 : Int) from Int32.toInt_zero)).mp h1
    refine lv_iconst (v := (-1 : Int32)) hx hb dX1_lift_17 (by decide) ?_
    subst hQ
    exact W.iret (v := (-1 : Int32)) hx hb hr (fun t ht hW => ⟨⟨(-1 : Int32), ((n, T, k, G), E, d), rfl, (by rw [(show sp_lift x y n T0 k G0 = ((-1 : Int32), (n, T0, k, G0)) from (by unfold sp_lift; (repeat' split) <;> first | rfl | (exfalso; omega)))]; exact ⟨rfl, tE_mk hT hG hn hk⟩), by rw [ht]; exact hP, va_K.moved hW.alike hK, hD⟩, hS.F ht⟩) hS.2.2 dX1_lift_18
  · skip
    have h1 := (not_congr (tl_lt (show x.toInt = x.toInt from rfl) (show (0 : Int32).toInt = (0 : Int) from Int32.toInt_zero))).mp h1
    refine lv_iload_n hx hb dX1_lift_4 rfl (lv_at hl 2 rfl) ?_
    refine lv_iload_n hx hb dX1_lift_5 rfl (lv_at hl 1 rfl) ?_
    refine lv_icmp_lt (tgt := 17) hx hb dX1_lift_6 rfl (fun h6 => ?_) (fun h6 => ?_)
    · skip
      have h6 := (tl_lt (show y.toInt = y.toInt from rfl) (show x.toInt = x.toInt from rfl)).mp h6
      refine lv_iconst (v := (-1 : Int32)) hx hb dX1_lift_17 (by decide) ?_
      subst hQ
      exact W.iret (v := (-1 : Int32)) hx hb hr (fun t ht hW => ⟨⟨(-1 : Int32), ((n, T, k, G), E, d), rfl, (by rw [(show sp_lift x y n T0 k G0 = ((-1 : Int32), (n, T0, k, G0)) from (by unfold sp_lift; (repeat' split) <;> first | rfl | (exfalso; omega)))]; exact ⟨rfl, tE_mk hT hG hn hk⟩), by rw [ht]; exact hP, va_K.moved hW.alike hK, hD⟩, hS.F ht⟩) hS.2.2 dX1_lift_18
    · skip
      have h6 := (not_congr (tl_lt (show y.toInt = y.toInt from rfl) (show x.toInt = x.toInt from rfl))).mp h6
      refine lv_iload_n hx hb dX1_lift_9 rfl (lv_at hl 2 rfl) ?_
      refine lv_aload_n hx hb dX1_lift_10 rfl (lv_at hl 0 rfl) ?_
      refine va_get (D := (dC, dI)) (ci := 1) (v := .int (nI n)) (C := RX1) (T := TX1) (N := 6) hx hb hts hinX1 hown hK hP 0 rfl rfl 3 (by decide) (hts _ (List.mem_cons_of_mem _ k248)) (fun _ h9 => h9) rfl dX1_lift_11 ?_
      refine lv_icmp_le (tgt := 19) hx hb dX1_lift_14 rfl (fun h14 => ?_) (fun h14 => ?_)
      · skip
        have h14 := (tl_le (show y.toInt = y.toInt from rfl) (show (nI n).toInt = ((n : Nat) : Int) from (nI_toInt (by omega)))).mp h14
        obtain ⟨a, lta, rfl⟩ := tl_of (x := x) (by omega)
        have ea : (nI a).toInt = ((a : Nat) : Int) := nI_toInt lta
        obtain ⟨b, ltb, rfl⟩ := tl_of (x := y) (by omega)
        have eb : (nI b).toInt = ((b : Nat) : Int) := nI_toInt ltb
        refine lv_iload_n hx hb dX1_lift_19 rfl (lv_at hl 2 rfl) ?_
        refine lv_iload_n hx hb dX1_lift_20 rfl (lv_at hl 1 rfl) ?_
        refine lv_isub hx hb dX1_lift_21 ?_
        refine tl_top (pk_sub (by omega)) ?_
        refine lv_bipush (v := nI 40) hx hb dX1_lift_22 (by decide) ?_
        refine lv_icmp_le (tgt := 30) hx hb dX1_lift_24 rfl (fun h24 => ?_) (fun h24 => ?_)
        · skip
          have h24 := (tl_le (show (nI (b - a)).toInt = ((b - a : Nat) : Int) from (nI_toInt (by omega))) (show (nI 40).toInt = (40 : Int) from (by decide))).mp h24
          refine lv_aload_n hx hb dX1_lift_30 rfl (lv_at hl 0 rfl) ?_
          refine lv_iload_n hx hb dX1_lift_31 rfl (lv_at hl 2 rfl) ?_
          refine lv_iload_n hx hb dX1_lift_32 rfl (lv_at hl 1 rfl) ?_
          refine lv_isub hx hb dX1_lift_33 ?_
          refine tl_top (pk_sub (by omega)) ?_
          refine va_put (D := (dC, dI)) (ci := 1) (v := .int (nI (b - a))) (ty := .int) (C := RX1) (T := TX1) (N := 6) hx hb hts hinX1 tyX1 tyX1_ok nmX1 hown hK hP hD hS 0 rfl rfl 4 (by decide) (hts _ (List.mem_cons_of_mem _ k249)) (fun _ h9 => h9) rfl (by decide +kernel) rfl rfl (Nat.le_of_ble_eq_true rfl) dX1_lift_34 (fun H locs hP hD hS => ?_)
          have hP : va_P (dC, dI) vwCl [(h0, .inr (1, [.ref q0, .ref q1, .ref q2, .int (nI n), .int (nI (b - a)), .int d])), (q0, .inl (cA, 3000, .inl T)), (q1, .inl (cB, 40, .inl G)), (q2, .inl (cC, 20, .inl E))] H := hP
          have hD : va_D A [(h0, .inr (1, [.ref q0, .ref q1, .ref q2, .int (nI n), .int (nI (b - a)), .int d])), (q0, .inl (cA, 3000, .inl T)), (q1, .inl (cB, 40, .inl G)), (q2, .inl (cC, 20, .inl E))] := hD
          refine lv_iconst (v := nI 0) hx hb dX1_lift_37 (by decide) ?_
          refine lv_istore_n (lv' := [(3, .int (nI 0)), (0, .ref h0), (1, .int (nI a)), (2, .int (nI b))]) hx hb dX1_lift_38 rfl hl (by decide) rfl (fun ls hl => ?_)
          have LP39 : ∀ (fu : Nat) (j : Nat) (F : Nat → Int32) (H : Heap) (locs : List Loc) (ls : Array Slot), b - a - j < fu → j ≤ b - a → (∀ i, i < j → F i = T0 (a + i)) → lv_has ls 4 [(0, .ref h0), (1, .int (nI a)), (3, .int (nI j))] → va_P (dC, dI) vwCl [(h0, .inr (1, [.ref q0, .ref q1, .ref q2, .int (nI n), .int (nI (b - a)), .int d])), (q0, .inl (cA, 3000, .inl T)), (q1, .inl (cB, 40, .inl F)), (q2, .inl (cC, 20, .inl E))] H → va_D A [(h0, .inr (1, [.ref q0, .ref q1, .ref q2, .int (nI n), .int (nI (b - a)), .int d])), (q0, .inl (cA, 3000, .inl T)), (q1, .inl (cB, 40, .inl F)), (q2, .inl (cC, 20, .inl E))] → va_S A s.heap H locs → W p l e (headSpec wsX1_lift ({ frames := 0, cells := 0, slots := 0, locals := 0 } : Room)).room s m ([.ref h0, .int (nI a), .int (nI b)] : List Value).toArray below meth c H locs 0 0 Q (F0 m 39 ls []) := by
            intro fu
            induction fu with
            | zero => intro j F H locs ls hfu; exact absurd hfu (Nat.not_lt_zero _)
            | succ fu ih =>
              intro j F H locs ls hfu hj hF hl hP hD hS
              refine lv_iload_n hx hb dX1_lift_39 rfl (lv_at hl 2 rfl) ?_
              refine lv_aload_n hx hb dX1_lift_40 rfl (lv_at hl 0 rfl) ?_
              refine va_get (D := (dC, dI)) (ci := 1) (v := .int (nI (b - a))) (C := RX1) (T := TX1) (N := 6) hx hb hts hinX1 hown hK hP 0 rfl rfl 4 (by decide) (hts _ (List.mem_cons_of_mem _ k249)) (fun _ h9 => h9) rfl dX1_lift_41 ?_
              refine lv_icmp_ge (tgt := 67) hx hb dX1_lift_44 rfl (fun h44 => ?_) (fun h44 => ?_)
              · skip
                have h44 := (tl_le (show (nI (b - a)).toInt = ((b - a : Nat) : Int) from (nI_toInt (by omega))) (show (nI j).toInt = ((j : Nat) : Int) from (nI_toInt (by omega)))).mp h44
                refine lv_aload_n hx hb dX1_lift_67 rfl (lv_at hl 0 rfl) ?_
                refine va_get (D := (dC, dI)) (ci := 1) (v := .int (nI (b - a))) (C := RX1) (T := TX1) (N := 6) hx hb hts hinX1 hown hK hP 0 rfl rfl 4 (by decide) (hts _ (List.mem_cons_of_mem _ k249)) (fun _ h9 => h9) rfl dX1_lift_68 ?_
                subst hQ
                exact W.iret (v := nI (b - a)) hx hb hr (fun t ht hW => ⟨⟨nI (b - a), ((n, T, b - a, F), E, d), rfl, (by rw [(show sp_lift (nI a) (nI b) n T0 k G0 = (nI (b - a), (n, T0, b - a, fun j => T0 (a + j))) from (by unfold sp_lift; (try simp only [nI_clamp lta]); (try simp only [nI_clamp ltb]); (repeat' split) <;> first | rfl | (exfalso; omega)))]; exact ⟨rfl, tE_mk hT (fun i hi => hF i (by omega)) hn (by omega)⟩), by rw [ht]; exact hP, va_K.moved hW.alike hK, hD⟩, hS.F ht⟩) hS.2.2 dX1_lift_71
              · skip
                have h44 := (not_congr (tl_le (show (nI (b - a)).toInt = ((b - a : Nat) : Int) from (nI_toInt (by omega))) (show (nI j).toInt = ((j : Nat) : Int) from (nI_toInt (by omega))))).mp h44
                refine lv_aload_n hx hb dX1_lift_47 rfl (lv_at hl 0 rfl) ?_
                refine va_get (D := (dC, dI)) (ci := 1) (v := .ref q1) (C := RX1) (T := TX1) (N := 6) hx hb hts hinX1 hown hK hP 0 rfl rfl 1 (by decide) (hts _ (List.mem_cons_of_mem _ k246)) (fun _ h9 => h9) rfl dX1_lift_48 ?_
                refine lv_iload_n hx hb dX1_lift_51 rfl (lv_at hl 2 rfl) ?_
                refine lv_aload_n hx hb dX1_lift_52 rfl (lv_at hl 0 rfl) ?_
                refine va_get (D := (dC, dI)) (ci := 1) (v := .ref q0) (C := RX1) (T := TX1) (N := 6) hx hb hts hinX1 hown hK hP 0 rfl rfl 0 (by decide) (hts _ (List.mem_cons_of_mem _ k245)) (fun _ h9 => h9) rfl dX1_lift_53 ?_
                refine lv_iload_n hx hb dX1_lift_56 rfl (lv_at hl 1 rfl) ?_
                refine lv_iload_n hx hb dX1_lift_57 rfl (lv_at hl 2 rfl) ?_
                refine lv_iadd hx hb dX1_lift_58 ?_
                refine tl_top (nI_add _ _) ?_
                refine tl_iald (v := T0 (a + j)) hx hb hK hP 1 0 rfl rfl (by omega) (by decide) (hT _ (by omega)) dX1_lift_59 ?_
                refine tl_iast hx hb hK hP hD hS 2 1 rfl rfl (by omega) (by decide) dX1_lift_60 (fun H locs hP hD hS => ?_)
                have hP : va_P (dC, dI) vwCl [(h0, .inr (1, [.ref q0, .ref q1, .ref q2, .int (nI n), .int (nI (b - a)), .int d])), (q0, .inl (cA, 3000, .inl T)), (q1, .inl (cB, 40, .inl (upd F j (T0 (a + j))))), (q2, .inl (cC, 20, .inl E))] H := hP
                have hD : va_D A [(h0, .inr (1, [.ref q0, .ref q1, .ref q2, .int (nI n), .int (nI (b - a)), .int d])), (q0, .inl (cA, 3000, .inl T)), (q1, .inl (cB, 40, .inl (upd F j (T0 (a + j))))), (q2, .inl (cC, 20, .inl E))] := hD
                refine lv_iinc (lv' := [(3, .int (nI (j + 1))), (0, .ref h0), (1, .int (nI a))]) (k := 2) (v := nI (j + 1)) hx hb dX1_lift_61 hl rfl (tl_inc1 _) (by decide) rfl (fun ls hl => ?_)
                refine lv_goto (tgt := 39) hx hb dX1_lift_64 rfl ?_
                exact ih (j + 1) (upd F j (T0 (a + j))) _ _ ls (by omega) (by omega) (pm_lift hF) (lv_sub hl [1, 2, 0] rfl) hP hD hS
          exact LP39 _ 0 G _ _ ls (Nat.lt_succ_self _) (by omega) (by intro i hi; omega) (lv_sub hl [1, 2, 0] rfl) hP hD hS
        · skip
          have h24 := (not_congr (tl_le (show (nI (b - a)).toInt = ((b - a : Nat) : Int) from (nI_toInt (by omega))) (show (nI 40).toInt = (40 : Int) from (by decide)))).mp h24
          refine lv_bipush (v := (-3 : Int32)) hx hb dX1_lift_27 (by decide) ?_
          subst hQ
          exact W.iret (v := (-3 : Int32)) hx hb hr (fun t ht hW => ⟨⟨(-3 : Int32), ((n, T, k, G), E, d), rfl, (by rw [(show sp_lift (nI a) (nI b) n T0 k G0 = ((-3 : Int32), (n, T0, k, G0)) from (by unfold sp_lift; (try simp only [nI_clamp lta]); (try simp only [nI_clamp ltb]); (repeat' split) <;> first | rfl | (exfalso; omega)))]; exact ⟨rfl, tE_mk hT hG hn hk⟩), by rw [ht]; exact hP, va_K.moved hW.alike hK, hD⟩, hS.F ht⟩) hS.2.2 dX1_lift_29
      · skip
        have h14 := (not_congr (tl_le (show y.toInt = y.toInt from rfl) (show (nI n).toInt = ((n : Nat) : Int) from (nI_toInt (by omega))))).mp h14
        refine lv_iconst (v := (-1 : Int32)) hx hb dX1_lift_17 (by decide) ?_
        subst hQ
        exact W.iret (v := (-1 : Int32)) hx hb hr (fun t ht hW => ⟨⟨(-1 : Int32), ((n, T, k, G), E, d), rfl, (by rw [(show sp_lift x y n T0 k G0 = ((-1 : Int32), (n, T0, k, G0)) from (by unfold sp_lift; (repeat' split) <;> first | rfl | (exfalso; omega)))]; exact ⟨rfl, tE_mk hT hG hn hk⟩), by rw [ht]; exact hP, va_K.moved hW.alike hK, hD⟩, hS.F ht⟩) hS.2.2 dX1_lift_18
